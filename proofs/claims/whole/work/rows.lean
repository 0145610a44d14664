section
-- ===== PART A: goes FIRST, ahead of the names: the tables' words, and 'selects' of the private methods out of them =====
/-- a private method of a class that the tables say can be made, by its rows of tables_1 -/
def lw_okq (q : MethodName × Nat) : Prop := (q.1.cls ≠ "java/lang/invoke/MethodHandle" ∧ q.1.cls ≠ "java/lang/invoke/VarHandle") ∧ Cond.instantiable q.1.cls q.2 ∈ tables_1 ∧ Cond.privateMethod q.1 ∈ tables_1 ∧ Cond.instanceMethod q.1 ∈ tables_1
theorem lw_p0 : lw_okq (⟨"java/lang/Throwable", "fillInStackTrace", "(I)Ljava/lang/Throwable;"⟩, 6) := ⟨⟨by decide +kernel, by decide +kernel⟩, List.mem_of_getElem? (i := 115) (by decide +kernel), List.mem_of_getElem? (i := 113) (by decide +kernel), List.mem_of_getElem? (i := 114) (by decide +kernel)⟩
theorem lw_p1 : lw_okq (⟨"ContainerKit", "demandOneMoreContainer", "()V"⟩, 3) := ⟨⟨by decide +kernel, by decide +kernel⟩, List.mem_of_getElem? (i := 19) (by decide +kernel), List.mem_of_getElem? (i := 145) (by decide +kernel), List.mem_of_getElem? (i := 146) (by decide +kernel)⟩
theorem lw_p2 : lw_okq (⟨"ContainerKit", "keepContainer", "(LContainerKit$Container;)I"⟩, 3) := ⟨⟨by decide +kernel, by decide +kernel⟩, List.mem_of_getElem? (i := 19) (by decide +kernel), List.mem_of_getElem? (i := 221) (by decide +kernel), List.mem_of_getElem? (i := 222) (by decide +kernel)⟩
theorem lw_p3 : lw_okq (⟨"ContainerKit", "containerAt", "(I)LContainerKit$Container;"⟩, 3) := ⟨⟨by decide +kernel, by decide +kernel⟩, List.mem_of_getElem? (i := 19) (by decide +kernel), List.mem_of_getElem? (i := 235) (by decide +kernel), List.mem_of_getElem? (i := 236) (by decide +kernel)⟩
theorem lw_p4 : lw_okq (⟨"ContainerKit", "freshList", "(I)LContainerKit$Container;"⟩, 3) := ⟨⟨by decide +kernel, by decide +kernel⟩, List.mem_of_getElem? (i := 19) (by decide +kernel), List.mem_of_getElem? (i := 416) (by decide +kernel), List.mem_of_getElem? (i := 417) (by decide +kernel)⟩
theorem lw_p5 : lw_okq (⟨"ContainerKit", "freshListOrHeap", "(I)LContainerKit$Container;"⟩, 3) := ⟨⟨by decide +kernel, by decide +kernel⟩, List.mem_of_getElem? (i := 19) (by decide +kernel), List.mem_of_getElem? (i := 489) (by decide +kernel), List.mem_of_getElem? (i := 490) (by decide +kernel)⟩
theorem lw_p6 : lw_okq (⟨"ContainerKit$Store", "closeGap", "(I)V"⟩, 6) := ⟨⟨by decide +kernel, by decide +kernel⟩, List.mem_of_getElem? (i := 170) (by decide +kernel), List.mem_of_getElem? (i := 541) (by decide +kernel), List.mem_of_getElem? (i := 542) (by decide +kernel)⟩
theorem lw_p7 : lw_okq (⟨"ContainerKit", "mapAt", "(I)LContainerKit$Container;"⟩, 3) := ⟨⟨by decide +kernel, by decide +kernel⟩, List.mem_of_getElem? (i := 19) (by decide +kernel), List.mem_of_getElem? (i := 578) (by decide +kernel), List.mem_of_getElem? (i := 579) (by decide +kernel)⟩
theorem lw_p8 : lw_okq (⟨"ContainerKit$Store", "bringKeyIn", "(II)V"⟩, 6) := ⟨⟨by decide +kernel, by decide +kernel⟩, List.mem_of_getElem? (i := 170) (by decide +kernel), List.mem_of_getElem? (i := 626) (by decide +kernel), List.mem_of_getElem? (i := 627) (by decide +kernel)⟩
theorem lw_p9 : lw_okq (⟨"ContainerKit$Store", "bucketOf", "(I)I"⟩, 6) := ⟨⟨by decide +kernel, by decide +kernel⟩, List.mem_of_getElem? (i := 170) (by decide +kernel), List.mem_of_getElem? (i := 717) (by decide +kernel), List.mem_of_getElem? (i := 718) (by decide +kernel)⟩
theorem lw_p10 : lw_okq (⟨"ContainerKit", "walkAt", "(I)LContainerKit$Walk;"⟩, 3) := ⟨⟨by decide +kernel, by decide +kernel⟩, List.mem_of_getElem? (i := 19) (by decide +kernel), List.mem_of_getElem? (i := 767) (by decide +kernel), List.mem_of_getElem? (i := 768) (by decide +kernel)⟩
theorem lw_p11 : lw_okq (⟨"ContainerKit", "openedWalkAt", "(I)LContainerKit$Walk;"⟩, 3) := ⟨⟨by decide +kernel, by decide +kernel⟩, List.mem_of_getElem? (i := 19) (by decide +kernel), List.mem_of_getElem? (i := 787) (by decide +kernel), List.mem_of_getElem? (i := 788) (by decide +kernel)⟩
theorem lw_p12 : lw_okq (⟨"ContainerKitModel", "make", "(II)I"⟩, 17) := ⟨⟨by decide +kernel, by decide +kernel⟩, List.mem_of_getElem? (i := 842) (by decide +kernel), List.mem_of_getElem? (i := 908) (by decide +kernel), List.mem_of_getElem? (i := 909) (by decide +kernel)⟩
theorem lw_p13 : lw_okq (⟨"ContainerKitModel", "isThere", "(I)Z"⟩, 17) := ⟨⟨by decide +kernel, by decide +kernel⟩, List.mem_of_getElem? (i := 842) (by decide +kernel), List.mem_of_getElem? (i := 916) (by decide +kernel), List.mem_of_getElem? (i := 917) (by decide +kernel)⟩
theorem lw_p14 : lw_okq (⟨"ContainerKitModel", "isList", "(I)Z"⟩, 17) := ⟨⟨by decide +kernel, by decide +kernel⟩, List.mem_of_getElem? (i := 842) (by decide +kernel), List.mem_of_getElem? (i := 920) (by decide +kernel), List.mem_of_getElem? (i := 921) (by decide +kernel)⟩
theorem lw_p15 : lw_okq (⟨"ContainerKitModel", "isTree", "(I)Z"⟩, 17) := ⟨⟨by decide +kernel, by decide +kernel⟩, List.mem_of_getElem? (i := 842) (by decide +kernel), List.mem_of_getElem? (i := 924) (by decide +kernel), List.mem_of_getElem? (i := 925) (by decide +kernel)⟩
def lw_privs_1 : List (MethodName × Nat) := [(⟨"java/lang/Throwable", "fillInStackTrace", "(I)Ljava/lang/Throwable;"⟩, 6), (⟨"ContainerKit", "demandOneMoreContainer", "()V"⟩, 3), (⟨"ContainerKit", "keepContainer", "(LContainerKit$Container;)I"⟩, 3), (⟨"ContainerKit", "containerAt", "(I)LContainerKit$Container;"⟩, 3), (⟨"ContainerKit", "freshList", "(I)LContainerKit$Container;"⟩, 3), (⟨"ContainerKit", "freshListOrHeap", "(I)LContainerKit$Container;"⟩, 3), (⟨"ContainerKit$Store", "closeGap", "(I)V"⟩, 6), (⟨"ContainerKit", "mapAt", "(I)LContainerKit$Container;"⟩, 3), (⟨"ContainerKit$Store", "bringKeyIn", "(II)V"⟩, 6), (⟨"ContainerKit$Store", "bucketOf", "(I)I"⟩, 6), (⟨"ContainerKit", "walkAt", "(I)LContainerKit$Walk;"⟩, 3), (⟨"ContainerKit", "openedWalkAt", "(I)LContainerKit$Walk;"⟩, 3), (⟨"ContainerKitModel", "make", "(II)I"⟩, 17), (⟨"ContainerKitModel", "isThere", "(I)Z"⟩, 17), (⟨"ContainerKitModel", "isList", "(I)Z"⟩, 17), (⟨"ContainerKitModel", "isTree", "(I)Z"⟩, 17)]
theorem lw_r1 : ∀ q ∈ lw_privs_1, lw_okq q := List.forall_mem_cons.mpr ⟨lw_p0, List.forall_mem_cons.mpr ⟨lw_p1, List.forall_mem_cons.mpr ⟨lw_p2, List.forall_mem_cons.mpr ⟨lw_p3, List.forall_mem_cons.mpr ⟨lw_p4, List.forall_mem_cons.mpr ⟨lw_p5, List.forall_mem_cons.mpr ⟨lw_p6, List.forall_mem_cons.mpr ⟨lw_p7, List.forall_mem_cons.mpr ⟨lw_p8, List.forall_mem_cons.mpr ⟨lw_p9, List.forall_mem_cons.mpr ⟨lw_p10, List.forall_mem_cons.mpr ⟨lw_p11, List.forall_mem_cons.mpr ⟨lw_p12, List.forall_mem_cons.mpr ⟨lw_p13, List.forall_mem_cons.mpr ⟨lw_p14, List.forall_mem_cons.mpr ⟨lw_p15, fun _ h => absurd h List.not_mem_nil⟩⟩⟩⟩⟩⟩⟩⟩⟩⟩⟩⟩⟩⟩⟩⟩
theorem lw_p16 : lw_okq (⟨"ContainerKitModel", "isStale", "(I)Z"⟩, 17) := ⟨⟨by decide +kernel, by decide +kernel⟩, List.mem_of_getElem? (i := 842) (by decide +kernel), List.mem_of_getElem? (i := 928) (by decide +kernel), List.mem_of_getElem? (i := 929) (by decide +kernel)⟩
theorem lw_p17 : lw_okq (⟨"ContainerKitModel", "sizeOf", "(I)I"⟩, 17) := ⟨⟨by decide +kernel, by decide +kernel⟩, List.mem_of_getElem? (i := 842) (by decide +kernel), List.mem_of_getElem? (i := 932) (by decide +kernel), List.mem_of_getElem? (i := 933) (by decide +kernel)⟩
theorem lw_p18 : lw_okq (⟨"ContainerKitModel", "isIn", "(II)Z"⟩, 17) := ⟨⟨by decide +kernel, by decide +kernel⟩, List.mem_of_getElem? (i := 842) (by decide +kernel), List.mem_of_getElem? (i := 936) (by decide +kernel), List.mem_of_getElem? (i := 937) (by decide +kernel)⟩
theorem lw_p19 : lw_okq (⟨"ContainerKitModel", "placeIn", "(I)I"⟩, 17) := ⟨⟨by decide +kernel, by decide +kernel⟩, List.mem_of_getElem? (i := 842) (by decide +kernel), List.mem_of_getElem? (i := 940) (by decide +kernel), List.mem_of_getElem? (i := 941) (by decide +kernel)⟩
theorem lw_p20 : lw_okq (⟨"ContainerKitModel", "checkList", "(II)I"⟩, 17) := ⟨⟨by decide +kernel, by decide +kernel⟩, List.mem_of_getElem? (i := 842) (by decide +kernel), List.mem_of_getElem? (i := 956) (by decide +kernel), List.mem_of_getElem? (i := 957) (by decide +kernel)⟩
theorem lw_p21 : lw_okq (⟨"ContainerKitModel", "at", "(II)I"⟩, 17) := ⟨⟨by decide +kernel, by decide +kernel⟩, List.mem_of_getElem? (i := 842) (by decide +kernel), List.mem_of_getElem? (i := 960) (by decide +kernel), List.mem_of_getElem? (i := 961) (by decide +kernel)⟩
theorem lw_p22 : lw_okq (⟨"ContainerKitModel", "putIn", "(IIII)V"⟩, 17) := ⟨⟨by decide +kernel, by decide +kernel⟩, List.mem_of_getElem? (i := 842) (by decide +kernel), List.mem_of_getElem? (i := 973) (by decide +kernel), List.mem_of_getElem? (i := 974) (by decide +kernel)⟩
theorem lw_p23 : lw_okq (⟨"ContainerKitModel", "changed", "(II)V"⟩, 17) := ⟨⟨by decide +kernel, by decide +kernel⟩, List.mem_of_getElem? (i := 842) (by decide +kernel), List.mem_of_getElem? (i := 977) (by decide +kernel), List.mem_of_getElem? (i := 978) (by decide +kernel)⟩
theorem lw_p24 : lw_okq (⟨"ContainerKitModel", "insertAt", "(III)V"⟩, 17) := ⟨⟨by decide +kernel, by decide +kernel⟩, List.mem_of_getElem? (i := 842) (by decide +kernel), List.mem_of_getElem? (i := 981) (by decide +kernel), List.mem_of_getElem? (i := 982) (by decide +kernel)⟩
theorem lw_p25 : lw_okq (⟨"ContainerKitModel", "takeOut", "(II)V"⟩, 17) := ⟨⟨by decide +kernel, by decide +kernel⟩, List.mem_of_getElem? (i := 842) (by decide +kernel), List.mem_of_getElem? (i := 989) (by decide +kernel), List.mem_of_getElem? (i := 990) (by decide +kernel)⟩
theorem lw_p26 : lw_okq (⟨"ContainerKitModel", "lookUp", "(II)I"⟩, 17) := ⟨⟨by decide +kernel, by decide +kernel⟩, List.mem_of_getElem? (i := 842) (by decide +kernel), List.mem_of_getElem? (i := 1007) (by decide +kernel), List.mem_of_getElem? (i := 1008) (by decide +kernel)⟩
theorem lw_p27 : lw_okq (⟨"ContainerKitModel", "checkMap", "(I)I"⟩, 17) := ⟨⟨by decide +kernel, by decide +kernel⟩, List.mem_of_getElem? (i := 842) (by decide +kernel), List.mem_of_getElem? (i := 1011) (by decide +kernel), List.mem_of_getElem? (i := 1012) (by decide +kernel)⟩
theorem lw_p28 : lw_okq (⟨"ContainerKitModel", "isMap", "(I)Z"⟩, 17) := ⟨⟨by decide +kernel, by decide +kernel⟩, List.mem_of_getElem? (i := 842) (by decide +kernel), List.mem_of_getElem? (i := 1015) (by decide +kernel), List.mem_of_getElem? (i := 1016) (by decide +kernel)⟩
theorem lw_p29 : lw_okq (⟨"ContainerKitModel", "find", "(II)I"⟩, 17) := ⟨⟨by decide +kernel, by decide +kernel⟩, List.mem_of_getElem? (i := 842) (by decide +kernel), List.mem_of_getElem? (i := 1019) (by decide +kernel), List.mem_of_getElem? (i := 1020) (by decide +kernel)⟩
theorem lw_p30 : lw_okq (⟨"ContainerKitModel", "add", "(III)V"⟩, 17) := ⟨⟨by decide +kernel, by decide +kernel⟩, List.mem_of_getElem? (i := 842) (by decide +kernel), List.mem_of_getElem? (i := 1023) (by decide +kernel), List.mem_of_getElem? (i := 1024) (by decide +kernel)⟩
theorem lw_p31 : lw_okq (⟨"ContainerKitModel", "hashes", "(I)Z"⟩, 17) := ⟨⟨by decide +kernel, by decide +kernel⟩, List.mem_of_getElem? (i := 842) (by decide +kernel), List.mem_of_getElem? (i := 1027) (by decide +kernel), List.mem_of_getElem? (i := 1028) (by decide +kernel)⟩
def lw_privs_2 : List (MethodName × Nat) := [(⟨"ContainerKitModel", "isStale", "(I)Z"⟩, 17), (⟨"ContainerKitModel", "sizeOf", "(I)I"⟩, 17), (⟨"ContainerKitModel", "isIn", "(II)Z"⟩, 17), (⟨"ContainerKitModel", "placeIn", "(I)I"⟩, 17), (⟨"ContainerKitModel", "checkList", "(II)I"⟩, 17), (⟨"ContainerKitModel", "at", "(II)I"⟩, 17), (⟨"ContainerKitModel", "putIn", "(IIII)V"⟩, 17), (⟨"ContainerKitModel", "changed", "(II)V"⟩, 17), (⟨"ContainerKitModel", "insertAt", "(III)V"⟩, 17), (⟨"ContainerKitModel", "takeOut", "(II)V"⟩, 17), (⟨"ContainerKitModel", "lookUp", "(II)I"⟩, 17), (⟨"ContainerKitModel", "checkMap", "(I)I"⟩, 17), (⟨"ContainerKitModel", "isMap", "(I)Z"⟩, 17), (⟨"ContainerKitModel", "find", "(II)I"⟩, 17), (⟨"ContainerKitModel", "add", "(III)V"⟩, 17), (⟨"ContainerKitModel", "hashes", "(I)Z"⟩, 17)]
theorem lw_r2 : ∀ q ∈ lw_privs_2, lw_okq q := List.forall_mem_cons.mpr ⟨lw_p16, List.forall_mem_cons.mpr ⟨lw_p17, List.forall_mem_cons.mpr ⟨lw_p18, List.forall_mem_cons.mpr ⟨lw_p19, List.forall_mem_cons.mpr ⟨lw_p20, List.forall_mem_cons.mpr ⟨lw_p21, List.forall_mem_cons.mpr ⟨lw_p22, List.forall_mem_cons.mpr ⟨lw_p23, List.forall_mem_cons.mpr ⟨lw_p24, List.forall_mem_cons.mpr ⟨lw_p25, List.forall_mem_cons.mpr ⟨lw_p26, List.forall_mem_cons.mpr ⟨lw_p27, List.forall_mem_cons.mpr ⟨lw_p28, List.forall_mem_cons.mpr ⟨lw_p29, List.forall_mem_cons.mpr ⟨lw_p30, List.forall_mem_cons.mpr ⟨lw_p31, fun _ h => absurd h List.not_mem_nil⟩⟩⟩⟩⟩⟩⟩⟩⟩⟩⟩⟩⟩⟩⟩⟩
theorem lw_p32 : lw_okq (⟨"ContainerKitModel", "freshen", "(II)V"⟩, 17) := ⟨⟨by decide +kernel, by decide +kernel⟩, List.mem_of_getElem? (i := 842) (by decide +kernel), List.mem_of_getElem? (i := 1031) (by decide +kernel), List.mem_of_getElem? (i := 1032) (by decide +kernel)⟩
theorem lw_p33 : lw_okq (⟨"ContainerKitModel", "fail", "(I)I"⟩, 17) := ⟨⟨by decide +kernel, by decide +kernel⟩, List.mem_of_getElem? (i := 842) (by decide +kernel), List.mem_of_getElem? (i := 1047) (by decide +kernel), List.mem_of_getElem? (i := 1048) (by decide +kernel)⟩
theorem lw_p34 : lw_okq (⟨"ContainerKitModel", "isOpen", "(I)Z"⟩, 17) := ⟨⟨by decide +kernel, by decide +kernel⟩, List.mem_of_getElem? (i := 842) (by decide +kernel), List.mem_of_getElem? (i := 1089) (by decide +kernel), List.mem_of_getElem? (i := 1090) (by decide +kernel)⟩
theorem lw_p35 : lw_okq (⟨"ContainerKitModel", "isLost", "(I)Z"⟩, 17) := ⟨⟨by decide +kernel, by decide +kernel⟩, List.mem_of_getElem? (i := 842) (by decide +kernel), List.mem_of_getElem? (i := 1093) (by decide +kernel), List.mem_of_getElem? (i := 1094) (by decide +kernel)⟩
theorem lw_p36 : lw_okq (⟨"ContainerKitModel", "checkLatest", "(I)I"⟩, 17) := ⟨⟨by decide +kernel, by decide +kernel⟩, List.mem_of_getElem? (i := 842) (by decide +kernel), List.mem_of_getElem? (i := 1105) (by decide +kernel), List.mem_of_getElem? (i := 1106) (by decide +kernel)⟩
theorem lw_p37 : lw_okq (⟨"ContainerKitModel", "settle", "(II)V"⟩, 17) := ⟨⟨by decide +kernel, by decide +kernel⟩, List.mem_of_getElem? (i := 842) (by decide +kernel), List.mem_of_getElem? (i := 1109) (by decide +kernel), List.mem_of_getElem? (i := 1110) (by decide +kernel)⟩
def lw_privs_3 : List (MethodName × Nat) := [(⟨"ContainerKitModel", "freshen", "(II)V"⟩, 17), (⟨"ContainerKitModel", "fail", "(I)I"⟩, 17), (⟨"ContainerKitModel", "isOpen", "(I)Z"⟩, 17), (⟨"ContainerKitModel", "isLost", "(I)Z"⟩, 17), (⟨"ContainerKitModel", "checkLatest", "(I)I"⟩, 17), (⟨"ContainerKitModel", "settle", "(II)V"⟩, 17)]
theorem lw_r3 : ∀ q ∈ lw_privs_3, lw_okq q := List.forall_mem_cons.mpr ⟨lw_p32, List.forall_mem_cons.mpr ⟨lw_p33, List.forall_mem_cons.mpr ⟨lw_p34, List.forall_mem_cons.mpr ⟨lw_p35, List.forall_mem_cons.mpr ⟨lw_p36, List.forall_mem_cons.mpr ⟨lw_p37, fun _ h => absurd h List.not_mem_nil⟩⟩⟩⟩⟩⟩
def lw_privs : List (MethodName × Nat) := lw_privs_1 ++ (lw_privs_2 ++ (lw_privs_3))
def lw_tbl : List Cond := k2_sels lw_privs ++ tables_1
theorem lw_privs_ok : ∀ q ∈ lw_privs, lw_okq q := by
  show ∀ q ∈ lw_privs_1 ++ (lw_privs_2 ++ (lw_privs_3)), lw_okq q
  exact List.forall_mem_append.mpr ⟨lw_r1, List.forall_mem_append.mpr ⟨lw_r2, lw_r3⟩⟩
end
section
/-! words of the table, one by one; names of classes, fields, methods (printed by a program of mine out of claim/) -/
theorem qt_tables_1_1 {w : Cond} (h : w ∈ tables_1_1) : w ∈ lw_tbl := List.mem_append_right _ (by unfold tables_1; exact List.mem_append_left _ h)
theorem qt_tables_1_2 {w : Cond} (h : w ∈ tables_1_2) : w ∈ lw_tbl := List.mem_append_right _ (by unfold tables_1; exact List.mem_append_right _ (List.mem_append_left _ h))
theorem qt_tables_1_3 {w : Cond} (h : w ∈ tables_1_3) : w ∈ lw_tbl := List.mem_append_right _ (by unfold tables_1; exact List.mem_append_right _ (List.mem_append_right _ (List.mem_append_left _ h)))
theorem qt_tables_1_4 {w : Cond} (h : w ∈ tables_1_4) : w ∈ lw_tbl := List.mem_append_right _ (by unfold tables_1; exact List.mem_append_right _ (List.mem_append_right _ (List.mem_append_right _ (List.mem_append_left _ h))))
theorem qt_tables_1_5 {w : Cond} (h : w ∈ tables_1_5) : w ∈ lw_tbl := List.mem_append_right _ (by unfold tables_1; exact List.mem_append_right _ (List.mem_append_right _ (List.mem_append_right _ (List.mem_append_right _ (h)))))
theorem q_0 : (Cond.initialized "ContainerKitLaw") ∈ lw_tbl := qt_tables_1_1 (List.mem_of_getElem? (i := 0) rfl)
theorem q_1 : (Cond.initialized "ContainerKit") ∈ lw_tbl := qt_tables_1_1 (List.mem_of_getElem? (i := 1) rfl)
theorem q_2 : (Cond.initialized "ContainerKit$Walk") ∈ lw_tbl := qt_tables_1_1 (List.mem_of_getElem? (i := 2) rfl)
theorem q_3 : (Cond.initialized "ContainerKitModel") ∈ lw_tbl := qt_tables_1_1 (List.mem_of_getElem? (i := 3) rfl)
theorem q_4 : (Cond.initialized "java/lang/Throwable") ∈ lw_tbl := qt_tables_1_1 (List.mem_of_getElem? (i := 4) rfl)
theorem q_5 : (Cond.initialized "java/lang/Exception") ∈ lw_tbl := qt_tables_1_1 (List.mem_of_getElem? (i := 5) rfl)
theorem q_6 : (Cond.initialized "java/lang/RuntimeException") ∈ lw_tbl := qt_tables_1_1 (List.mem_of_getElem? (i := 6) rfl)
theorem q_7 : (Cond.initialized "java/lang/IllegalArgumentException") ∈ lw_tbl := qt_tables_1_1 (List.mem_of_getElem? (i := 7) rfl)
theorem q_8 : (Cond.initialized "java/lang/IllegalStateException") ∈ lw_tbl := qt_tables_1_1 (List.mem_of_getElem? (i := 8) rfl)
theorem q_9 : (Cond.initialized "ContainerKit$Container") ∈ lw_tbl := qt_tables_1_1 (List.mem_of_getElem? (i := 9) rfl)
theorem q_10 : (Cond.initialized "ContainerKit$Whole") ∈ lw_tbl := qt_tables_1_1 (List.mem_of_getElem? (i := 10) rfl)
theorem q_11 : (Cond.initialized "ContainerKit$Store") ∈ lw_tbl := qt_tables_1_1 (List.mem_of_getElem? (i := 11) rfl)
theorem q_12 : (Cond.initialized "java/lang/IndexOutOfBoundsException") ∈ lw_tbl := qt_tables_1_1 (List.mem_of_getElem? (i := 12) rfl)
theorem q_13 : (Cond.initialized "java/lang/UnsupportedOperationException") ∈ lw_tbl := qt_tables_1_1 (List.mem_of_getElem? (i := 13) rfl)
theorem q_14 : (Cond.initialized "java/lang/Math") ∈ lw_tbl := qt_tables_1_1 (List.mem_of_getElem? (i := 14) rfl)
theorem q_15 : (Cond.initialized "ContainerKit$Range") ∈ lw_tbl := qt_tables_1_1 (List.mem_of_getElem? (i := 15) rfl)
theorem q_16 : (Cond.initialized "ContainerKit$Part") ∈ lw_tbl := qt_tables_1_1 (List.mem_of_getElem? (i := 16) rfl)
theorem q_17 : (Cond.initialized "java/util/NoSuchElementException") ∈ lw_tbl := qt_tables_1_1 (List.mem_of_getElem? (i := 17) rfl)
theorem q_18 : (Cond.classLink "ContainerKitLaw" (8 : Nat) "ContainerKit") ∈ lw_tbl := qt_tables_1_1 (List.mem_of_getElem? (i := 18) rfl)
theorem q_19 : (Cond.instantiable "ContainerKit" (3 : Nat)) ∈ lw_tbl := qt_tables_1_1 (List.mem_of_getElem? (i := 19) rfl)
theorem q_20 : (Cond.methodLink "ContainerKitLaw" (105 : Nat) ({ cls := "ContainerKit", name := "<init>", desc := "()V" } : MethodName)) ∈ lw_tbl := qt_tables_1_1 (List.mem_of_getElem? (i := 20) rfl)
theorem q_21 : (Cond.instanceMethod ({ cls := "ContainerKit", name := "<init>", desc := "()V" } : MethodName)) ∈ lw_tbl := qt_tables_1_1 (List.mem_of_getElem? (i := 21) rfl)
theorem q_22 : (Cond.code ({ cls := "ContainerKit", name := "<init>", desc := "()V" } : MethodName) prog_1_method_1_code (2 : Nat) (Option.none : Option FieldType)) ∈ lw_tbl := qt_tables_1_1 (List.mem_of_getElem? (i := 22) rfl)
theorem q_23 : (Cond.methodLink "ContainerKit" (1 : Nat) ({ cls := "java/lang/Object", name := "<init>", desc := "()V" } : MethodName)) ∈ lw_tbl := qt_tables_1_1 (List.mem_of_getElem? (i := 23) rfl)
theorem q_24 : (Cond.instanceMethod ({ cls := "java/lang/Object", name := "<init>", desc := "()V" } : MethodName)) ∈ lw_tbl := qt_tables_1_1 (List.mem_of_getElem? (i := 24) rfl)
theorem q_25 : (Cond.code ({ cls := "java/lang/Object", name := "<init>", desc := "()V" } : MethodName) object_method_1_code (1 : Nat) (Option.none : Option FieldType)) ∈ lw_tbl := qt_tables_1_1 (List.mem_of_getElem? (i := 25) rfl)
theorem q_26 : (Cond.classLink "ContainerKit" (9 : Nat) "ContainerKit$Container") ∈ lw_tbl := qt_tables_1_1 (List.mem_of_getElem? (i := 26) rfl)
theorem q_27 : (Cond.arrayOver (FieldType.object "ContainerKit$Container")) ∈ lw_tbl := qt_tables_1_1 (List.mem_of_getElem? (i := 27) rfl)
theorem q_28 : (Cond.classLink "ContainerKit" (15 : Nat) "ContainerKit$Walk") ∈ lw_tbl := qt_tables_1_1 (List.mem_of_getElem? (i := 28) rfl)
theorem q_29 : (Cond.arrayOver (FieldType.object "ContainerKit$Walk")) ∈ lw_tbl := qt_tables_1_1 (List.mem_of_getElem? (i := 29) rfl)
theorem q_30 : (Cond.instantiable "ContainerKit$Walk" (4 : Nat)) ∈ lw_tbl := qt_tables_1_1 (List.mem_of_getElem? (i := 30) rfl)
theorem q_31 : (Cond.methodLinkNest "ContainerKit" (25 : Nat) ({ cls := "ContainerKit$Walk", name := "<init>", desc := "()V" } : MethodName) "ContainerKit") ∈ lw_tbl := qt_tables_1_1 (List.mem_of_getElem? (i := 31) rfl)
theorem q_32 : (Cond.instanceMethod ({ cls := "ContainerKit$Walk", name := "<init>", desc := "()V" } : MethodName)) ∈ lw_tbl := qt_tables_1_1 (List.mem_of_getElem? (i := 32) rfl)
theorem q_33 : (Cond.code ({ cls := "ContainerKit$Walk", name := "<init>", desc := "()V" } : MethodName) prog_6_method_1_code (1 : Nat) (Option.none : Option FieldType)) ∈ lw_tbl := qt_tables_1_1 (List.mem_of_getElem? (i := 33) rfl)
theorem q_34 : (Cond.methodLink "ContainerKit$Walk" (3 : Nat) ({ cls := "java/lang/Object", name := "<init>", desc := "()V" } : MethodName)) ∈ lw_tbl := qt_tables_1_1 (List.mem_of_getElem? (i := 34) rfl)
theorem q_35 : (Cond.fieldLink "ContainerKit$Walk" (9 : Nat) "ContainerKit$Walk" "over" "LContainerKit$Container;") ∈ lw_tbl := qt_tables_1_1 (List.mem_of_getElem? (i := 35) rfl)
theorem q_36 : (Cond.fieldLinkNest "ContainerKit" (171 : Nat) "ContainerKit$Walk" "over" "LContainerKit$Container;" "ContainerKit") ∈ lw_tbl := qt_tables_1_1 (List.mem_of_getElem? (i := 36) rfl)
theorem q_37 : (Cond.fieldLink "ContainerKit$Walk" (15 : Nat) "ContainerKit$Walk" "place" "I") ∈ lw_tbl := qt_tables_1_1 (List.mem_of_getElem? (i := 37) rfl)
theorem q_38 : (Cond.fieldLinkNest "ContainerKit" (179 : Nat) "ContainerKit$Walk" "place" "I" "ContainerKit") ∈ lw_tbl := qt_tables_1_1 (List.mem_of_getElem? (i := 38) rfl)
theorem q_39 : (Cond.fieldLink "ContainerKit$Walk" (19 : Nat) "ContainerKit$Walk" "latest" "I") ∈ lw_tbl := qt_tables_1_1 (List.mem_of_getElem? (i := 39) rfl)
theorem q_40 : (Cond.fieldLinkNest "ContainerKit" (186 : Nat) "ContainerKit$Walk" "latest" "I" "ContainerKit") ∈ lw_tbl := qt_tables_1_1 (List.mem_of_getElem? (i := 40) rfl)
theorem q_41 : (Cond.fieldLink "ContainerKit$Walk" (22 : Nat) "ContainerKit$Walk" "seenChanges" "I") ∈ lw_tbl := qt_tables_1_1 (List.mem_of_getElem? (i := 41) rfl)
theorem q_42 : (Cond.lays "ContainerKit$Walk" "ContainerKit$Walk" "over" "LContainerKit$Container;") ∈ lw_tbl := qt_tables_1_1 (List.mem_of_getElem? (i := 42) rfl)
theorem q_43 : (Cond.soleField "ContainerKit$Walk" "over") ∈ lw_tbl := qt_tables_1_1 (List.mem_of_getElem? (i := 43) rfl)
theorem q_44 : (Cond.lays "ContainerKit$Walk" "ContainerKit$Walk" "place" "I") ∈ lw_tbl := qt_tables_1_1 (List.mem_of_getElem? (i := 44) rfl)
theorem q_45 : (Cond.soleField "ContainerKit$Walk" "place") ∈ lw_tbl := qt_tables_1_1 (List.mem_of_getElem? (i := 45) rfl)
theorem q_46 : (Cond.lays "ContainerKit$Walk" "ContainerKit$Walk" "latest" "I") ∈ lw_tbl := qt_tables_1_1 (List.mem_of_getElem? (i := 46) rfl)
theorem q_47 : (Cond.soleField "ContainerKit$Walk" "latest") ∈ lw_tbl := qt_tables_1_1 (List.mem_of_getElem? (i := 47) rfl)
theorem q_48 : (Cond.lays "ContainerKit$Walk" "ContainerKit$Walk" "seenChanges" "I") ∈ lw_tbl := qt_tables_1_1 (List.mem_of_getElem? (i := 48) rfl)
theorem q_49 : (Cond.soleField "ContainerKit$Walk" "seenChanges") ∈ lw_tbl := qt_tables_1_1 (List.mem_of_getElem? (i := 49) rfl)
theorem q_50 : (Cond.superclass "ContainerKit$Walk" "java/lang/Object") ∈ lw_tbl := qt_tables_1_1 (List.mem_of_getElem? (i := 50) rfl)
theorem q_51 : (Cond.fieldLink "ContainerKit" (11 : Nat) "ContainerKit" "containers" "[LContainerKit$Container;") ∈ lw_tbl := qt_tables_1_1 (List.mem_of_getElem? (i := 51) rfl)
theorem q_52 : (Cond.fieldLink "ContainerKit" (17 : Nat) "ContainerKit" "walks" "[LContainerKit$Walk;") ∈ lw_tbl := qt_tables_1_1 (List.mem_of_getElem? (i := 52) rfl)
theorem q_53 : (Cond.fieldLink "ContainerKit" (21 : Nat) "ContainerKit" "made" "I") ∈ lw_tbl := qt_tables_1_1 (List.mem_of_getElem? (i := 53) rfl)
theorem q_54 : (Cond.laysFinal "ContainerKit" "ContainerKit" "containers" "[LContainerKit$Container;") ∈ lw_tbl := qt_tables_1_1 (List.mem_of_getElem? (i := 54) rfl)
theorem q_55 : (Cond.soleField "ContainerKit" "containers") ∈ lw_tbl := qt_tables_1_1 (List.mem_of_getElem? (i := 55) rfl)
theorem q_56 : (Cond.laysFinal "ContainerKit" "ContainerKit" "walks" "[LContainerKit$Walk;") ∈ lw_tbl := qt_tables_1_1 (List.mem_of_getElem? (i := 56) rfl)
theorem q_57 : (Cond.soleField "ContainerKit" "walks") ∈ lw_tbl := qt_tables_1_1 (List.mem_of_getElem? (i := 57) rfl)
theorem q_58 : (Cond.lays "ContainerKit" "ContainerKit" "made" "I") ∈ lw_tbl := qt_tables_1_1 (List.mem_of_getElem? (i := 58) rfl)
theorem q_59 : (Cond.soleField "ContainerKit" "made") ∈ lw_tbl := qt_tables_1_1 (List.mem_of_getElem? (i := 59) rfl)
theorem q_60 : (Cond.superclass "ContainerKit" "java/lang/Object") ∈ lw_tbl := qt_tables_1_1 (List.mem_of_getElem? (i := 60) rfl)
theorem q_61 : (Cond.methodLink "ContainerKitLaw" (109 : Nat) ({ cls := "ContainerKitLaw", name := "create", desc := "(LContainerKit;I[J)I" } : MethodName)) ∈ lw_tbl := qt_tables_1_1 (List.mem_of_getElem? (i := 61) rfl)
theorem q_62 : (Cond.static ({ cls := "ContainerKitLaw", name := "create", desc := "(LContainerKit;I[J)I" } : MethodName)) ∈ lw_tbl := qt_tables_1_1 (List.mem_of_getElem? (i := 62) rfl)
theorem q_63 : (Cond.codeWith ({ cls := "ContainerKitLaw", name := "create", desc := "(LContainerKit;I[J)I" } : MethodName) method_3_code (4 : Nat) (Option.some FieldType.int) [((0 : Nat), (9 : Nat), (12 : Nat), (13 : Nat)), ((0 : Nat), (9 : Nat), (15 : Nat), (15 : Nat))]) ∈ lw_tbl := qt_tables_1_1 (List.mem_of_getElem? (i := 63) rfl)
theorem q_64 : (Cond.classLink "ContainerKitLaw" (13 : Nat) "java/lang/IllegalArgumentException") ∈ lw_tbl := qt_tables_1_1 (List.mem_of_getElem? (i := 64) rfl)
theorem q_65 : (Cond.classLink "ContainerKitLaw" (15 : Nat) "java/lang/IllegalStateException") ∈ lw_tbl := qt_tables_1_1 (List.mem_of_getElem? (i := 65) rfl)
theorem q_66 : (Cond.methodLink "ContainerKitLaw" (7 : Nat) ({ cls := "ContainerKit", name := "create", desc := "(I)I" } : MethodName)) ∈ lw_tbl := qt_tables_1_1 (List.mem_of_getElem? (i := 66) rfl)
theorem q_67 : (Cond.instanceMethod ({ cls := "ContainerKit", name := "create", desc := "(I)I" } : MethodName)) ∈ lw_tbl := qt_tables_1_1 (List.mem_of_getElem? (i := 67) rfl)
theorem q_68 : (Cond.selects "ContainerKit" ({ cls := "ContainerKit", name := "create", desc := "(I)I" } : MethodName) ({ cls := "ContainerKit", name := "create", desc := "(I)I" } : MethodName)) ∈ lw_tbl := qt_tables_1_1 (List.mem_of_getElem? (i := 68) rfl)
theorem q_69 : (Cond.code ({ cls := "ContainerKit", name := "create", desc := "(I)I" } : MethodName) prog_1_method_2_code (2 : Nat) (Option.some FieldType.int)) ∈ lw_tbl := qt_tables_1_1 (List.mem_of_getElem? (i := 69) rfl)
theorem q_70 : (Cond.methodLink "ContainerKit" (26 : Nat) ({ cls := "ContainerKit", name := "demandArgument", desc := "(Z)V" } : MethodName)) ∈ lw_tbl := qt_tables_1_1 (List.mem_of_getElem? (i := 70) rfl)
theorem q_71 : (Cond.static ({ cls := "ContainerKit", name := "demandArgument", desc := "(Z)V" } : MethodName)) ∈ lw_tbl := qt_tables_1_1 (List.mem_of_getElem? (i := 71) rfl)
theorem q_72 : (Cond.code ({ cls := "ContainerKit", name := "demandArgument", desc := "(Z)V" } : MethodName) prog_1_method_38_code (1 : Nat) (Option.none : Option FieldType)) ∈ lw_tbl := qt_tables_1_1 (List.mem_of_getElem? (i := 72) rfl)
theorem q_73 : (Cond.classLink "ContainerKit" (244 : Nat) "java/lang/IllegalArgumentException") ∈ lw_tbl := qt_tables_1_1 (List.mem_of_getElem? (i := 73) rfl)
theorem q_74 : (Cond.instantiable "java/lang/IllegalArgumentException" (6 : Nat)) ∈ lw_tbl := qt_tables_1_1 (List.mem_of_getElem? (i := 74) rfl)
theorem q_75 : (Cond.castable "java/lang/IllegalArgumentException" "java/lang/IllegalArgumentException") ∈ lw_tbl := qt_tables_1_1 (List.mem_of_getElem? (i := 75) rfl)
theorem q_76 : (Cond.declares ({ cls := "java/lang/RuntimeException", name := "<init>", desc := "()V" } : MethodName)) ∈ lw_tbl := qt_tables_1_1 (List.mem_of_getElem? (i := 76) rfl)
theorem q_77 : (Cond.declares ({ cls := "java/lang/RuntimeException", name := "<init>", desc := "(Ljava/lang/String;)V" } : MethodName)) ∈ lw_tbl := qt_tables_1_1 (List.mem_of_getElem? (i := 77) rfl)
theorem q_78 : (Cond.declares ({ cls := "java/lang/Exception", name := "<init>", desc := "()V" } : MethodName)) ∈ lw_tbl := qt_tables_1_1 (List.mem_of_getElem? (i := 78) rfl)
theorem q_79 : (Cond.declares ({ cls := "java/lang/Exception", name := "<init>", desc := "(Ljava/lang/String;)V" } : MethodName)) ∈ lw_tbl := qt_tables_1_1 (List.mem_of_getElem? (i := 79) rfl)
theorem q_80 : (Cond.declares ({ cls := "java/lang/Throwable", name := "<init>", desc := "()V" } : MethodName)) ∈ lw_tbl := qt_tables_1_1 (List.mem_of_getElem? (i := 80) rfl)
theorem q_81 : (Cond.declares ({ cls := "java/lang/Throwable", name := "<init>", desc := "(Ljava/lang/String;)V" } : MethodName)) ∈ lw_tbl := qt_tables_1_1 (List.mem_of_getElem? (i := 81) rfl)
theorem q_82 : (Cond.selects "java/lang/IllegalArgumentException" ({ cls := "java/lang/Throwable", name := "fillInStackTrace", desc := "(I)Ljava/lang/Throwable;" } : MethodName) ({ cls := "java/lang/Throwable", name := "fillInStackTrace", desc := "(I)Ljava/lang/Throwable;" } : MethodName)) ∈ lw_tbl := qt_tables_1_1 (List.mem_of_getElem? (i := 82) rfl)
theorem q_83 : (Cond.selects "java/lang/IllegalArgumentException" ({ cls := "java/lang/Throwable", name := "fillInStackTrace", desc := "()Ljava/lang/Throwable;" } : MethodName) ({ cls := "java/lang/Throwable", name := "fillInStackTrace", desc := "()Ljava/lang/Throwable;" } : MethodName)) ∈ lw_tbl := qt_tables_1_1 (List.mem_of_getElem? (i := 83) rfl)
theorem q_84 : (Cond.lays "java/lang/IllegalArgumentException" "java/lang/Throwable" "cause" "Ljava/lang/Throwable;") ∈ lw_tbl := qt_tables_1_1 (List.mem_of_getElem? (i := 84) rfl)
theorem q_85 : (Cond.lays "java/lang/Throwable" "java/lang/Throwable" "cause" "Ljava/lang/Throwable;") ∈ lw_tbl := qt_tables_1_1 (List.mem_of_getElem? (i := 85) rfl)
theorem q_86 : (Cond.lays "java/lang/IllegalArgumentException" "java/lang/Throwable" "stackTrace" "[Ljava/lang/StackTraceElement;") ∈ lw_tbl := qt_tables_1_1 (List.mem_of_getElem? (i := 86) rfl)
theorem q_87 : (Cond.lays "java/lang/Throwable" "java/lang/Throwable" "stackTrace" "[Ljava/lang/StackTraceElement;") ∈ lw_tbl := qt_tables_1_1 (List.mem_of_getElem? (i := 87) rfl)
theorem q_88 : (Cond.lays "java/lang/IllegalArgumentException" "java/lang/Throwable" "suppressedExceptions" "Ljava/util/List;") ∈ lw_tbl := qt_tables_1_1 (List.mem_of_getElem? (i := 88) rfl)
theorem q_89 : (Cond.lays "java/lang/Throwable" "java/lang/Throwable" "suppressedExceptions" "Ljava/util/List;") ∈ lw_tbl := qt_tables_1_1 (List.mem_of_getElem? (i := 89) rfl)
theorem q_90 : (Cond.lays "java/lang/IllegalArgumentException" "java/lang/Throwable" "detailMessage" "Ljava/lang/String;") ∈ lw_tbl := qt_tables_1_1 (List.mem_of_getElem? (i := 90) rfl)
theorem q_91 : (Cond.lays "java/lang/Throwable" "java/lang/Throwable" "detailMessage" "Ljava/lang/String;") ∈ lw_tbl := qt_tables_1_1 (List.mem_of_getElem? (i := 91) rfl)
theorem q_92 : (Cond.lays "java/lang/IllegalArgumentException" "java/lang/Throwable" "backtrace" "Ljava/lang/Object;") ∈ lw_tbl := qt_tables_1_1 (List.mem_of_getElem? (i := 92) rfl)
theorem q_93 : (Cond.lays "java/lang/Throwable" "java/lang/Throwable" "backtrace" "Ljava/lang/Object;") ∈ lw_tbl := qt_tables_1_1 (List.mem_of_getElem? (i := 93) rfl)
theorem q_94 : (Cond.fieldLink "java/lang/Throwable" (198 : Nat) "java/lang/Throwable" "backtrace" "Ljava/lang/Object;") ∈ lw_tbl := qt_tables_1_1 (List.mem_of_getElem? (i := 94) rfl)
theorem q_95 : (Cond.superclass "java/lang/Throwable" "java/lang/Object") ∈ lw_tbl := qt_tables_1_1 (List.mem_of_getElem? (i := 95) rfl)
theorem q_96 : (Cond.instanceMethod ({ cls := "java/lang/Throwable", name := "<init>", desc := "()V" } : MethodName)) ∈ lw_tbl := qt_tables_1_1 (List.mem_of_getElem? (i := 96) rfl)
theorem q_97 : (Cond.code ({ cls := "java/lang/Throwable", name := "<init>", desc := "()V" } : MethodName) prog_17_method_1_code (1 : Nat) (Option.none : Option FieldType)) ∈ lw_tbl := qt_tables_1_1 (List.mem_of_getElem? (i := 97) rfl)
theorem q_98 : (Cond.methodLink "java/lang/Throwable" (1 : Nat) ({ cls := "java/lang/Object", name := "<init>", desc := "()V" } : MethodName)) ∈ lw_tbl := qt_tables_1_1 (List.mem_of_getElem? (i := 98) rfl)
theorem q_99 : (Cond.fieldLink "java/lang/Throwable" (13 : Nat) "java/lang/Throwable" "UNASSIGNED_STACK" "[Ljava/lang/StackTraceElement;") ∈ lw_tbl := qt_tables_1_1 (List.mem_of_getElem? (i := 99) rfl)
theorem q_100 : (Cond.laysStatic "java/lang/Throwable" "UNASSIGNED_STACK" "[Ljava/lang/StackTraceElement;") ∈ lw_tbl := qt_tables_1_1 (List.mem_of_getElem? (i := 100) rfl)
theorem q_101 : (Cond.fieldLink "java/lang/Throwable" (20 : Nat) "java/lang/Throwable" "SUPPRESSED_SENTINEL" "Ljava/util/List;") ∈ lw_tbl := qt_tables_1_1 (List.mem_of_getElem? (i := 101) rfl)
theorem q_102 : (Cond.laysStatic "java/lang/Throwable" "SUPPRESSED_SENTINEL" "Ljava/util/List;") ∈ lw_tbl := qt_tables_1_1 (List.mem_of_getElem? (i := 102) rfl)
theorem q_103 : (Cond.methodLink "java/lang/Throwable" (27 : Nat) ({ cls := "java/lang/Throwable", name := "fillInStackTrace", desc := "()Ljava/lang/Throwable;" } : MethodName)) ∈ lw_tbl := qt_tables_1_1 (List.mem_of_getElem? (i := 103) rfl)
theorem q_104 : (Cond.instanceMethod ({ cls := "java/lang/Throwable", name := "fillInStackTrace", desc := "()Ljava/lang/Throwable;" } : MethodName)) ∈ lw_tbl := qt_tables_1_1 (List.mem_of_getElem? (i := 104) rfl)
theorem q_105 : (Cond.sameMethod "java/lang/Throwable" "java/lang/Throwable" "fillInStackTrace" "()Ljava/lang/Throwable;") ∈ lw_tbl := qt_tables_1_1 (List.mem_of_getElem? (i := 105) rfl)
theorem q_106 : (Cond.selects "java/lang/IllegalStateException" ({ cls := "java/lang/Throwable", name := "fillInStackTrace", desc := "()Ljava/lang/Throwable;" } : MethodName) ({ cls := "java/lang/Throwable", name := "fillInStackTrace", desc := "()Ljava/lang/Throwable;" } : MethodName)) ∈ lw_tbl := qt_tables_1_1 (List.mem_of_getElem? (i := 106) rfl)
theorem q_107 : (Cond.selects "java/lang/IndexOutOfBoundsException" ({ cls := "java/lang/Throwable", name := "fillInStackTrace", desc := "()Ljava/lang/Throwable;" } : MethodName) ({ cls := "java/lang/Throwable", name := "fillInStackTrace", desc := "()Ljava/lang/Throwable;" } : MethodName)) ∈ lw_tbl := qt_tables_1_1 (List.mem_of_getElem? (i := 107) rfl)
theorem q_108 : (Cond.selects "java/lang/RuntimeException" ({ cls := "java/lang/Throwable", name := "fillInStackTrace", desc := "()Ljava/lang/Throwable;" } : MethodName) ({ cls := "java/lang/Throwable", name := "fillInStackTrace", desc := "()Ljava/lang/Throwable;" } : MethodName)) ∈ lw_tbl := qt_tables_1_1 (List.mem_of_getElem? (i := 108) rfl)
theorem q_109 : (Cond.selects "java/lang/UnsupportedOperationException" ({ cls := "java/lang/Throwable", name := "fillInStackTrace", desc := "()Ljava/lang/Throwable;" } : MethodName) ({ cls := "java/lang/Throwable", name := "fillInStackTrace", desc := "()Ljava/lang/Throwable;" } : MethodName)) ∈ lw_tbl := qt_tables_1_1 (List.mem_of_getElem? (i := 109) rfl)
theorem q_110 : (Cond.selects "java/util/NoSuchElementException" ({ cls := "java/lang/Throwable", name := "fillInStackTrace", desc := "()Ljava/lang/Throwable;" } : MethodName) ({ cls := "java/lang/Throwable", name := "fillInStackTrace", desc := "()Ljava/lang/Throwable;" } : MethodName)) ∈ lw_tbl := qt_tables_1_1 (List.mem_of_getElem? (i := 110) rfl)
theorem q_111 : (Cond.codeSync ({ cls := "java/lang/Throwable", name := "fillInStackTrace", desc := "()Ljava/lang/Throwable;" } : MethodName) prog_17_method_18_code (1 : Nat) (Option.some (FieldType.object "java/lang/Throwable"))) ∈ lw_tbl := qt_tables_1_1 (List.mem_of_getElem? (i := 111) rfl)
theorem q_112 : (Cond.methodLink "java/lang/Throwable" (202 : Nat) ({ cls := "java/lang/Throwable", name := "fillInStackTrace", desc := "(I)Ljava/lang/Throwable;" } : MethodName)) ∈ lw_tbl := qt_tables_1_1 (List.mem_of_getElem? (i := 112) rfl)
theorem q_113 : (Cond.privateMethod ({ cls := "java/lang/Throwable", name := "fillInStackTrace", desc := "(I)Ljava/lang/Throwable;" } : MethodName)) ∈ lw_tbl := qt_tables_1_1 (List.mem_of_getElem? (i := 113) rfl)
theorem q_114 : (Cond.instanceMethod ({ cls := "java/lang/Throwable", name := "fillInStackTrace", desc := "(I)Ljava/lang/Throwable;" } : MethodName)) ∈ lw_tbl := qt_tables_1_1 (List.mem_of_getElem? (i := 114) rfl)
theorem q_115 : (Cond.instantiable "java/lang/Throwable" (6 : Nat)) ∈ lw_tbl := qt_tables_1_1 (List.mem_of_getElem? (i := 115) rfl)
theorem q_116 : (Cond.native ({ cls := "java/lang/Throwable", name := "fillInStackTrace", desc := "(I)Ljava/lang/Throwable;" } : MethodName)) ∈ lw_tbl := qt_tables_1_1 (List.mem_of_getElem? (i := 116) rfl)
theorem q_117 : (Cond.stringRef "ContainerKit" (246 : Nat) "an argument is not allowed here") ∈ lw_tbl := qt_tables_1_1 (List.mem_of_getElem? (i := 117) rfl)
theorem q_118 : (Cond.methodLink "ContainerKit" (248 : Nat) ({ cls := "java/lang/IllegalArgumentException", name := "<init>", desc := "(Ljava/lang/String;)V" } : MethodName)) ∈ lw_tbl := qt_tables_1_1 (List.mem_of_getElem? (i := 118) rfl)
theorem q_119 : (Cond.instanceMethod ({ cls := "java/lang/IllegalArgumentException", name := "<init>", desc := "(Ljava/lang/String;)V" } : MethodName)) ∈ lw_tbl := qt_tables_1_1 (List.mem_of_getElem? (i := 119) rfl)
theorem q_120 : (Cond.code ({ cls := "java/lang/IllegalArgumentException", name := "<init>", desc := "(Ljava/lang/String;)V" } : MethodName) prog_11_method_2_code (2 : Nat) (Option.none : Option FieldType)) ∈ lw_tbl := qt_tables_1_1 (List.mem_of_getElem? (i := 120) rfl)
theorem q_121 : (Cond.methodLink "java/lang/IllegalArgumentException" (7 : Nat) ({ cls := "java/lang/RuntimeException", name := "<init>", desc := "(Ljava/lang/String;)V" } : MethodName)) ∈ lw_tbl := qt_tables_1_1 (List.mem_of_getElem? (i := 121) rfl)
theorem q_122 : (Cond.instanceMethod ({ cls := "java/lang/RuntimeException", name := "<init>", desc := "(Ljava/lang/String;)V" } : MethodName)) ∈ lw_tbl := qt_tables_1_1 (List.mem_of_getElem? (i := 122) rfl)
theorem q_123 : (Cond.code ({ cls := "java/lang/RuntimeException", name := "<init>", desc := "(Ljava/lang/String;)V" } : MethodName) prog_15_method_2_code (2 : Nat) (Option.none : Option FieldType)) ∈ lw_tbl := qt_tables_1_1 (List.mem_of_getElem? (i := 123) rfl)
theorem q_124 : (Cond.methodLink "java/lang/RuntimeException" (7 : Nat) ({ cls := "java/lang/Exception", name := "<init>", desc := "(Ljava/lang/String;)V" } : MethodName)) ∈ lw_tbl := qt_tables_1_1 (List.mem_of_getElem? (i := 124) rfl)
theorem q_125 : (Cond.instanceMethod ({ cls := "java/lang/Exception", name := "<init>", desc := "(Ljava/lang/String;)V" } : MethodName)) ∈ lw_tbl := qt_tables_1_1 (List.mem_of_getElem? (i := 125) rfl)
theorem q_126 : (Cond.code ({ cls := "java/lang/Exception", name := "<init>", desc := "(Ljava/lang/String;)V" } : MethodName) prog_10_method_2_code (2 : Nat) (Option.none : Option FieldType)) ∈ lw_tbl := qt_tables_1_1 (List.mem_of_getElem? (i := 126) rfl)
theorem q_127 : (Cond.methodLink "java/lang/Exception" (7 : Nat) ({ cls := "java/lang/Throwable", name := "<init>", desc := "(Ljava/lang/String;)V" } : MethodName)) ∈ lw_tbl := qt_tables_1_1 (List.mem_of_getElem? (i := 127) rfl)
theorem q_128 : (Cond.instanceMethod ({ cls := "java/lang/Throwable", name := "<init>", desc := "(Ljava/lang/String;)V" } : MethodName)) ∈ lw_tbl := qt_tables_1_1 (List.mem_of_getElem? (i := 128) rfl)
theorem q_129 : (Cond.code ({ cls := "java/lang/Throwable", name := "<init>", desc := "(Ljava/lang/String;)V" } : MethodName) prog_17_method_2_code (2 : Nat) (Option.none : Option FieldType)) ∈ lw_tbl := qt_tables_1_1 (List.mem_of_getElem? (i := 129) rfl)
theorem q_130 : (Cond.fieldLink "java/lang/Throwable" (198 : Nat) "java/lang/Throwable" "backtrace" "Ljava/lang/Object;") ∈ lw_tbl := qt_tables_1_1 (List.mem_of_getElem? (i := 130) rfl)
theorem q_131 : (Cond.fieldLink "java/lang/Throwable" (31 : Nat) "java/lang/Throwable" "detailMessage" "Ljava/lang/String;") ∈ lw_tbl := qt_tables_1_1 (List.mem_of_getElem? (i := 131) rfl)
theorem q_132 : (Cond.fieldLink "java/lang/Throwable" (7 : Nat) "java/lang/Throwable" "cause" "Ljava/lang/Throwable;") ∈ lw_tbl := qt_tables_1_1 (List.mem_of_getElem? (i := 132) rfl)
theorem q_133 : (Cond.fieldLink "java/lang/Throwable" (17 : Nat) "java/lang/Throwable" "stackTrace" "[Ljava/lang/StackTraceElement;") ∈ lw_tbl := qt_tables_1_1 (List.mem_of_getElem? (i := 133) rfl)
theorem q_134 : (Cond.fieldLink "java/lang/Throwable" (24 : Nat) "java/lang/Throwable" "suppressedExceptions" "Ljava/util/List;") ∈ lw_tbl := qt_tables_1_1 (List.mem_of_getElem? (i := 134) rfl)
theorem q_135 : (Cond.soleField "java/lang/Throwable" "backtrace") ∈ lw_tbl := qt_tables_1_1 (List.mem_of_getElem? (i := 135) rfl)
theorem q_136 : (Cond.soleField "java/lang/Throwable" "detailMessage") ∈ lw_tbl := qt_tables_1_1 (List.mem_of_getElem? (i := 136) rfl)
theorem q_137 : (Cond.soleField "java/lang/Throwable" "cause") ∈ lw_tbl := qt_tables_1_1 (List.mem_of_getElem? (i := 137) rfl)
theorem q_138 : (Cond.soleField "java/lang/Throwable" "stackTrace") ∈ lw_tbl := qt_tables_1_1 (List.mem_of_getElem? (i := 138) rfl)
theorem q_139 : (Cond.lays "java/lang/IllegalArgumentException" "java/lang/Throwable" "depth" "I") ∈ lw_tbl := qt_tables_1_1 (List.mem_of_getElem? (i := 139) rfl)
theorem q_140 : (Cond.soleField "java/lang/Throwable" "depth") ∈ lw_tbl := qt_tables_1_1 (List.mem_of_getElem? (i := 140) rfl)
theorem q_141 : (Cond.soleField "java/lang/Throwable" "suppressedExceptions") ∈ lw_tbl := qt_tables_1_1 (List.mem_of_getElem? (i := 141) rfl)
theorem q_142 : (Cond.superclass "java/lang/IllegalArgumentException" "java/lang/RuntimeException") ∈ lw_tbl := qt_tables_1_1 (List.mem_of_getElem? (i := 142) rfl)
theorem q_143 : (Cond.arrayClass FieldType.byte) ∈ lw_tbl := qt_tables_1_1 (List.mem_of_getElem? (i := 143) rfl)
theorem q_144 : (Cond.methodLink "ContainerKit" (30 : Nat) ({ cls := "ContainerKit", name := "demandOneMoreContainer", desc := "()V" } : MethodName)) ∈ lw_tbl := qt_tables_1_1 (List.mem_of_getElem? (i := 144) rfl)
theorem q_145 : (Cond.privateMethod ({ cls := "ContainerKit", name := "demandOneMoreContainer", desc := "()V" } : MethodName)) ∈ lw_tbl := qt_tables_1_1 (List.mem_of_getElem? (i := 145) rfl)
theorem q_146 : (Cond.instanceMethod ({ cls := "ContainerKit", name := "demandOneMoreContainer", desc := "()V" } : MethodName)) ∈ lw_tbl := qt_tables_1_1 (List.mem_of_getElem? (i := 146) rfl)
theorem q_147 : (Cond.code ({ cls := "ContainerKit", name := "demandOneMoreContainer", desc := "()V" } : MethodName) prog_1_method_36_code (1 : Nat) (Option.none : Option FieldType)) ∈ lw_tbl := qt_tables_1_1 (List.mem_of_getElem? (i := 147) rfl)
theorem q_148 : (Cond.classLink "ContainerKit" (234 : Nat) "java/lang/IllegalStateException") ∈ lw_tbl := qt_tables_1_1 (List.mem_of_getElem? (i := 148) rfl)
theorem q_149 : (Cond.instantiable "java/lang/IllegalStateException" (6 : Nat)) ∈ lw_tbl := qt_tables_1_1 (List.mem_of_getElem? (i := 149) rfl)
theorem q_150 : (Cond.castable "java/lang/IllegalStateException" "java/lang/IllegalStateException") ∈ lw_tbl := qt_tables_1_1 (List.mem_of_getElem? (i := 150) rfl)
theorem q_151 : (Cond.selects "java/lang/IllegalStateException" ({ cls := "java/lang/Throwable", name := "fillInStackTrace", desc := "(I)Ljava/lang/Throwable;" } : MethodName) ({ cls := "java/lang/Throwable", name := "fillInStackTrace", desc := "(I)Ljava/lang/Throwable;" } : MethodName)) ∈ lw_tbl := qt_tables_1_1 (List.mem_of_getElem? (i := 151) rfl)
theorem q_152 : (Cond.lays "java/lang/IllegalStateException" "java/lang/Throwable" "cause" "Ljava/lang/Throwable;") ∈ lw_tbl := qt_tables_1_1 (List.mem_of_getElem? (i := 152) rfl)
theorem q_153 : (Cond.lays "java/lang/IllegalStateException" "java/lang/Throwable" "stackTrace" "[Ljava/lang/StackTraceElement;") ∈ lw_tbl := qt_tables_1_1 (List.mem_of_getElem? (i := 153) rfl)
theorem q_154 : (Cond.lays "java/lang/IllegalStateException" "java/lang/Throwable" "suppressedExceptions" "Ljava/util/List;") ∈ lw_tbl := qt_tables_1_1 (List.mem_of_getElem? (i := 154) rfl)
theorem q_155 : (Cond.lays "java/lang/IllegalStateException" "java/lang/Throwable" "detailMessage" "Ljava/lang/String;") ∈ lw_tbl := qt_tables_1_1 (List.mem_of_getElem? (i := 155) rfl)
theorem q_156 : (Cond.lays "java/lang/IllegalStateException" "java/lang/Throwable" "backtrace" "Ljava/lang/Object;") ∈ lw_tbl := qt_tables_1_1 (List.mem_of_getElem? (i := 156) rfl)
theorem q_157 : (Cond.stringRef "ContainerKit" (236 : Nat) "there are as many containers as there may be") ∈ lw_tbl := qt_tables_1_1 (List.mem_of_getElem? (i := 157) rfl)
theorem q_158 : (Cond.methodLink "ContainerKit" (238 : Nat) ({ cls := "java/lang/IllegalStateException", name := "<init>", desc := "(Ljava/lang/String;)V" } : MethodName)) ∈ lw_tbl := qt_tables_1_1 (List.mem_of_getElem? (i := 158) rfl)
theorem q_159 : (Cond.instanceMethod ({ cls := "java/lang/IllegalStateException", name := "<init>", desc := "(Ljava/lang/String;)V" } : MethodName)) ∈ lw_tbl := qt_tables_1_1 (List.mem_of_getElem? (i := 159) rfl)
theorem q_160 : (Cond.code ({ cls := "java/lang/IllegalStateException", name := "<init>", desc := "(Ljava/lang/String;)V" } : MethodName) prog_12_method_2_code (2 : Nat) (Option.none : Option FieldType)) ∈ lw_tbl := qt_tables_1_1 (List.mem_of_getElem? (i := 160) rfl)
theorem q_161 : (Cond.methodLink "java/lang/IllegalStateException" (7 : Nat) ({ cls := "java/lang/RuntimeException", name := "<init>", desc := "(Ljava/lang/String;)V" } : MethodName)) ∈ lw_tbl := qt_tables_1_1 (List.mem_of_getElem? (i := 161) rfl)
theorem q_162 : (Cond.lays "java/lang/IllegalStateException" "java/lang/Throwable" "depth" "I") ∈ lw_tbl := qt_tables_1_1 (List.mem_of_getElem? (i := 162) rfl)
theorem q_163 : (Cond.superclass "java/lang/IllegalStateException" "java/lang/RuntimeException") ∈ lw_tbl := qt_tables_1_1 (List.mem_of_getElem? (i := 163) rfl)
theorem q_164 : (Cond.classLink "ContainerKit" (33 : Nat) "ContainerKit$Whole") ∈ lw_tbl := qt_tables_1_1 (List.mem_of_getElem? (i := 164) rfl)
theorem q_165 : (Cond.instantiable "ContainerKit$Whole" (2 : Nat)) ∈ lw_tbl := qt_tables_1_1 (List.mem_of_getElem? (i := 165) rfl)
theorem q_166 : (Cond.methodLink "ContainerKit" (35 : Nat) ({ cls := "ContainerKit$Whole", name := "<init>", desc := "(I)V" } : MethodName)) ∈ lw_tbl := qt_tables_1_1 (List.mem_of_getElem? (i := 166) rfl)
theorem q_167 : (Cond.instanceMethod ({ cls := "ContainerKit$Whole", name := "<init>", desc := "(I)V" } : MethodName)) ∈ lw_tbl := qt_tables_1_1 (List.mem_of_getElem? (i := 167) rfl)
theorem q_168 : (Cond.code ({ cls := "ContainerKit$Whole", name := "<init>", desc := "(I)V" } : MethodName) prog_7_method_1_code (2 : Nat) (Option.none : Option FieldType)) ∈ lw_tbl := qt_tables_1_1 (List.mem_of_getElem? (i := 168) rfl)
theorem q_169 : (Cond.classLink "ContainerKit$Whole" (1 : Nat) "ContainerKit$Store") ∈ lw_tbl := qt_tables_1_1 (List.mem_of_getElem? (i := 169) rfl)
theorem q_170 : (Cond.instantiable "ContainerKit$Store" (6 : Nat)) ∈ lw_tbl := qt_tables_1_1 (List.mem_of_getElem? (i := 170) rfl)
theorem q_171 : (Cond.methodLink "ContainerKit$Whole" (3 : Nat) ({ cls := "ContainerKit$Store", name := "<init>", desc := "(I)V" } : MethodName)) ∈ lw_tbl := qt_tables_1_1 (List.mem_of_getElem? (i := 171) rfl)
theorem q_172 : (Cond.instanceMethod ({ cls := "ContainerKit$Store", name := "<init>", desc := "(I)V" } : MethodName)) ∈ lw_tbl := qt_tables_1_1 (List.mem_of_getElem? (i := 172) rfl)
theorem q_173 : (Cond.code ({ cls := "ContainerKit$Store", name := "<init>", desc := "(I)V" } : MethodName) prog_5_method_1_code (2 : Nat) (Option.none : Option FieldType)) ∈ lw_tbl := qt_tables_1_1 (List.mem_of_getElem? (i := 173) rfl)
theorem q_174 : (Cond.methodLink "ContainerKit$Store" (3 : Nat) ({ cls := "java/lang/Object", name := "<init>", desc := "()V" } : MethodName)) ∈ lw_tbl := qt_tables_1_1 (List.mem_of_getElem? (i := 174) rfl)
theorem q_175 : (Cond.fieldLink "ContainerKit$Store" (28 : Nat) "ContainerKit$Store" "kind" "I") ∈ lw_tbl := qt_tables_1_1 (List.mem_of_getElem? (i := 175) rfl)
theorem q_176 : (Cond.fieldLink "ContainerKit$Store" (9 : Nat) "ContainerKit$Store" "numbers" "[I") ∈ lw_tbl := qt_tables_1_1 (List.mem_of_getElem? (i := 176) rfl)
theorem q_177 : (Cond.fieldLink "ContainerKit$Store" (15 : Nat) "ContainerKit$Store" "values" "[I") ∈ lw_tbl := qt_tables_1_1 (List.mem_of_getElem? (i := 177) rfl)
theorem q_178 : (Cond.fieldLink "ContainerKit$Store" (18 : Nat) "ContainerKit$Store" "count" "I") ∈ lw_tbl := qt_tables_1_1 (List.mem_of_getElem? (i := 178) rfl)
theorem q_179 : (Cond.fieldLinkNest "ContainerKit$Whole" (18 : Nat) "ContainerKit$Store" "count" "I" "ContainerKit") ∈ lw_tbl := qt_tables_1_1 (List.mem_of_getElem? (i := 179) rfl)
theorem q_180 : (Cond.fieldLink "ContainerKit$Store" (22 : Nat) "ContainerKit$Store" "room" "I") ∈ lw_tbl := qt_tables_1_1 (List.mem_of_getElem? (i := 180) rfl)
theorem q_181 : (Cond.fieldLinkNest "ContainerKit" (142 : Nat) "ContainerKit$Store" "room" "I" "ContainerKit") ∈ lw_tbl := qt_tables_1_1 (List.mem_of_getElem? (i := 181) rfl)
theorem q_182 : (Cond.fieldLinkNest "ContainerKit$Part" (22 : Nat) "ContainerKit$Store" "changes" "I" "ContainerKit") ∈ lw_tbl := qt_tables_1_1 (List.mem_of_getElem? (i := 182) rfl)
theorem q_183 : (Cond.fieldLink "ContainerKit$Store" (25 : Nat) "ContainerKit$Store" "changes" "I") ∈ lw_tbl := qt_tables_1_1 (List.mem_of_getElem? (i := 183) rfl)
theorem q_184 : (Cond.fieldLinkNest "ContainerKit$Walk" (35 : Nat) "ContainerKit$Store" "changes" "I" "ContainerKit") ∈ lw_tbl := qt_tables_1_1 (List.mem_of_getElem? (i := 184) rfl)
theorem q_185 : (Cond.laysFinal "ContainerKit$Store" "ContainerKit$Store" "kind" "I") ∈ lw_tbl := qt_tables_1_1 (List.mem_of_getElem? (i := 185) rfl)
theorem q_186 : (Cond.soleField "ContainerKit$Store" "kind") ∈ lw_tbl := qt_tables_1_1 (List.mem_of_getElem? (i := 186) rfl)
theorem q_187 : (Cond.laysFinal "ContainerKit$Store" "ContainerKit$Store" "numbers" "[I") ∈ lw_tbl := qt_tables_1_1 (List.mem_of_getElem? (i := 187) rfl)
theorem q_188 : (Cond.soleField "ContainerKit$Store" "numbers") ∈ lw_tbl := qt_tables_1_1 (List.mem_of_getElem? (i := 188) rfl)
theorem q_189 : (Cond.laysFinal "ContainerKit$Store" "ContainerKit$Store" "values" "[I") ∈ lw_tbl := qt_tables_1_1 (List.mem_of_getElem? (i := 189) rfl)
theorem q_190 : (Cond.soleField "ContainerKit$Store" "values") ∈ lw_tbl := qt_tables_1_1 (List.mem_of_getElem? (i := 190) rfl)
theorem q_191 : (Cond.lays "ContainerKit$Store" "ContainerKit$Store" "count" "I") ∈ lw_tbl := qt_tables_1_1 (List.mem_of_getElem? (i := 191) rfl)
theorem q_192 : (Cond.soleField "ContainerKit$Store" "count") ∈ lw_tbl := qt_tables_1_1 (List.mem_of_getElem? (i := 192) rfl)
theorem q_193 : (Cond.lays "ContainerKit$Store" "ContainerKit$Store" "room" "I") ∈ lw_tbl := qt_tables_1_1 (List.mem_of_getElem? (i := 193) rfl)
theorem q_194 : (Cond.soleField "ContainerKit$Store" "room") ∈ lw_tbl := qt_tables_1_1 (List.mem_of_getElem? (i := 194) rfl)
theorem q_195 : (Cond.lays "ContainerKit$Store" "ContainerKit$Store" "changes" "I") ∈ lw_tbl := qt_tables_1_1 (List.mem_of_getElem? (i := 195) rfl)
theorem q_196 : (Cond.soleField "ContainerKit$Store" "changes") ∈ lw_tbl := qt_tables_1_1 (List.mem_of_getElem? (i := 196) rfl)
theorem q_197 : (Cond.superclass "ContainerKit$Store" "java/lang/Object") ∈ lw_tbl := qt_tables_1_1 (List.mem_of_getElem? (i := 197) rfl)
theorem q_198 : (Cond.arrayClass FieldType.int) ∈ lw_tbl := qt_tables_1_1 (List.mem_of_getElem? (i := 198) rfl)
theorem q_199 : (Cond.methodLink "ContainerKit$Whole" (7 : Nat) ({ cls := "ContainerKit$Container", name := "<init>", desc := "(ILContainerKit$Store;)V" } : MethodName)) ∈ lw_tbl := qt_tables_1_1 (List.mem_of_getElem? (i := 199) rfl)
theorem q_200 : (Cond.instanceMethod ({ cls := "ContainerKit$Container", name := "<init>", desc := "(ILContainerKit$Store;)V" } : MethodName)) ∈ lw_tbl := qt_tables_1_1 (List.mem_of_getElem? (i := 200) rfl)
theorem q_201 : (Cond.code ({ cls := "ContainerKit$Container", name := "<init>", desc := "(ILContainerKit$Store;)V" } : MethodName) prog_2_method_1_code (3 : Nat) (Option.none : Option FieldType)) ∈ lw_tbl := qt_tables_1_1 (List.mem_of_getElem? (i := 201) rfl)
theorem q_202 : (Cond.methodLink "ContainerKit$Container" (3 : Nat) ({ cls := "java/lang/Object", name := "<init>", desc := "()V" } : MethodName)) ∈ lw_tbl := qt_tables_1_1 (List.mem_of_getElem? (i := 202) rfl)
theorem q_203 : (Cond.fieldLink "ContainerKit$Container" (9 : Nat) "ContainerKit$Container" "kind" "I") ∈ lw_tbl := qt_tables_1_1 (List.mem_of_getElem? (i := 203) rfl)
theorem q_204 : (Cond.fieldLink "ContainerKit" (71 : Nat) "ContainerKit$Container" "kind" "I") ∈ lw_tbl := qt_tables_1_1 (List.mem_of_getElem? (i := 204) rfl)
theorem q_205 : (Cond.fieldLink "ContainerKit$Container" (15 : Nat) "ContainerKit$Container" "store" "LContainerKit$Store;") ∈ lw_tbl := qt_tables_1_1 (List.mem_of_getElem? (i := 205) rfl)
theorem q_206 : (Cond.fieldLink "ContainerKit$Range" (18 : Nat) "ContainerKit$Range" "store" "LContainerKit$Store;") ∈ lw_tbl := qt_tables_1_1 (List.mem_of_getElem? (i := 206) rfl)
theorem q_207 : (Cond.sameField "ContainerKit$Range" "ContainerKit$Container" "store" "LContainerKit$Store;") ∈ lw_tbl := qt_tables_1_1 (List.mem_of_getElem? (i := 207) rfl)
theorem q_208 : (Cond.fieldLink "ContainerKit$Whole" (12 : Nat) "ContainerKit$Whole" "store" "LContainerKit$Store;") ∈ lw_tbl := qt_tables_1_1 (List.mem_of_getElem? (i := 208) rfl)
theorem q_209 : (Cond.sameField "ContainerKit$Whole" "ContainerKit$Container" "store" "LContainerKit$Store;") ∈ lw_tbl := qt_tables_1_1 (List.mem_of_getElem? (i := 209) rfl)
theorem q_210 : (Cond.fieldLink "ContainerKit$Walk" (29 : Nat) "ContainerKit$Container" "store" "LContainerKit$Store;") ∈ lw_tbl := qt_tables_1_1 (List.mem_of_getElem? (i := 210) rfl)
theorem q_211 : (Cond.fieldLink "ContainerKit$Part" (30 : Nat) "ContainerKit$Part" "store" "LContainerKit$Store;") ∈ lw_tbl := qt_tables_1_1 (List.mem_of_getElem? (i := 211) rfl)
theorem q_212 : (Cond.sameField "ContainerKit$Part" "ContainerKit$Container" "store" "LContainerKit$Store;") ∈ lw_tbl := qt_tables_1_1 (List.mem_of_getElem? (i := 212) rfl)
theorem q_213 : (Cond.fieldLink "ContainerKit" (95 : Nat) "ContainerKit$Container" "store" "LContainerKit$Store;") ∈ lw_tbl := qt_tables_1_1 (List.mem_of_getElem? (i := 213) rfl)
theorem q_214 : (Cond.fieldLink "ContainerKit" (216 : Nat) "ContainerKit$Range" "store" "LContainerKit$Store;") ∈ lw_tbl := qt_tables_1_1 (List.mem_of_getElem? (i := 214) rfl)
theorem q_215 : (Cond.laysFinal "ContainerKit$Whole" "ContainerKit$Container" "kind" "I") ∈ lw_tbl := qt_tables_1_1 (List.mem_of_getElem? (i := 215) rfl)
theorem q_216 : (Cond.soleField "ContainerKit$Container" "kind") ∈ lw_tbl := qt_tables_1_1 (List.mem_of_getElem? (i := 216) rfl)
theorem q_217 : (Cond.laysFinal "ContainerKit$Whole" "ContainerKit$Container" "store" "LContainerKit$Store;") ∈ lw_tbl := qt_tables_1_1 (List.mem_of_getElem? (i := 217) rfl)
theorem q_218 : (Cond.soleField "ContainerKit$Container" "store") ∈ lw_tbl := qt_tables_1_1 (List.mem_of_getElem? (i := 218) rfl)
theorem q_219 : (Cond.superclass "ContainerKit$Whole" "ContainerKit$Container") ∈ lw_tbl := qt_tables_1_1 (List.mem_of_getElem? (i := 219) rfl)
theorem q_220 : (Cond.methodLink "ContainerKit" (38 : Nat) ({ cls := "ContainerKit", name := "keepContainer", desc := "(LContainerKit$Container;)I" } : MethodName)) ∈ lw_tbl := qt_tables_1_1 (List.mem_of_getElem? (i := 220) rfl)
theorem q_221 : (Cond.privateMethod ({ cls := "ContainerKit", name := "keepContainer", desc := "(LContainerKit$Container;)I" } : MethodName)) ∈ lw_tbl := qt_tables_1_1 (List.mem_of_getElem? (i := 221) rfl)
theorem q_222 : (Cond.instanceMethod ({ cls := "ContainerKit", name := "keepContainer", desc := "(LContainerKit$Container;)I" } : MethodName)) ∈ lw_tbl := qt_tables_1_1 (List.mem_of_getElem? (i := 222) rfl)
theorem q_223 : (Cond.code ({ cls := "ContainerKit", name := "keepContainer", desc := "(LContainerKit$Container;)I" } : MethodName) prog_1_method_33_code (3 : Nat) (Option.some FieldType.int)) ∈ lw_tbl := qt_tables_1_1 (List.mem_of_getElem? (i := 223) rfl)
theorem q_224 : (Cond.methodLink "ContainerKitLaw" (119 : Nat) ({ cls := "ContainerKitLaw", name := "view", desc := "(LContainerKit;III[J)I" } : MethodName)) ∈ lw_tbl := qt_tables_1_1 (List.mem_of_getElem? (i := 224) rfl)
theorem q_225 : (Cond.static ({ cls := "ContainerKitLaw", name := "view", desc := "(LContainerKit;III[J)I" } : MethodName)) ∈ lw_tbl := qt_tables_1_1 (List.mem_of_getElem? (i := 225) rfl)
theorem q_226 : (Cond.codeWith ({ cls := "ContainerKitLaw", name := "view", desc := "(LContainerKit;III[J)I" } : MethodName) method_4_code (6 : Nat) (Option.some FieldType.int) [((0 : Nat), (12 : Nat), (15 : Nat), (21 : Nat)), ((0 : Nat), (12 : Nat), (19 : Nat), (23 : Nat)), ((0 : Nat), (12 : Nat), (23 : Nat), (13 : Nat)), ((0 : Nat), (12 : Nat), (27 : Nat), (15 : Nat)), ((0 : Nat), (12 : Nat), (31 : Nat), (25 : Nat))]) ∈ lw_tbl := qt_tables_1_1 (List.mem_of_getElem? (i := 226) rfl)
theorem q_227 : (Cond.classLink "ContainerKitLaw" (21 : Nat) "java/lang/IndexOutOfBoundsException") ∈ lw_tbl := qt_tables_1_1 (List.mem_of_getElem? (i := 227) rfl)
theorem q_228 : (Cond.classLink "ContainerKitLaw" (23 : Nat) "java/lang/UnsupportedOperationException") ∈ lw_tbl := qt_tables_1_1 (List.mem_of_getElem? (i := 228) rfl)
theorem q_229 : (Cond.classLink "ContainerKitLaw" (25 : Nat) "java/lang/RuntimeException") ∈ lw_tbl := qt_tables_1_1 (List.mem_of_getElem? (i := 229) rfl)
theorem q_230 : (Cond.methodLink "ContainerKitLaw" (17 : Nat) ({ cls := "ContainerKit", name := "view", desc := "(III)I" } : MethodName)) ∈ lw_tbl := qt_tables_1_1 (List.mem_of_getElem? (i := 230) rfl)
theorem q_231 : (Cond.instanceMethod ({ cls := "ContainerKit", name := "view", desc := "(III)I" } : MethodName)) ∈ lw_tbl := qt_tables_1_1 (List.mem_of_getElem? (i := 231) rfl)
theorem q_232 : (Cond.selects "ContainerKit" ({ cls := "ContainerKit", name := "view", desc := "(III)I" } : MethodName) ({ cls := "ContainerKit", name := "view", desc := "(III)I" } : MethodName)) ∈ lw_tbl := qt_tables_1_1 (List.mem_of_getElem? (i := 232) rfl)
theorem q_233 : (Cond.code ({ cls := "ContainerKit", name := "view", desc := "(III)I" } : MethodName) prog_1_method_3_code (5 : Nat) (Option.some FieldType.int)) ∈ lw_tbl := qt_tables_1_1 (List.mem_of_getElem? (i := 233) rfl)
theorem q_234 : (Cond.methodLink "ContainerKit" (42 : Nat) ({ cls := "ContainerKit", name := "containerAt", desc := "(I)LContainerKit$Container;" } : MethodName)) ∈ lw_tbl := qt_tables_1_1 (List.mem_of_getElem? (i := 234) rfl)
theorem q_235 : (Cond.privateMethod ({ cls := "ContainerKit", name := "containerAt", desc := "(I)LContainerKit$Container;" } : MethodName)) ∈ lw_tbl := qt_tables_1_1 (List.mem_of_getElem? (i := 235) rfl)
theorem q_236 : (Cond.instanceMethod ({ cls := "ContainerKit", name := "containerAt", desc := "(I)LContainerKit$Container;" } : MethodName)) ∈ lw_tbl := qt_tables_1_1 (List.mem_of_getElem? (i := 236) rfl)
theorem q_237 : (Cond.code ({ cls := "ContainerKit", name := "containerAt", desc := "(I)LContainerKit$Container;" } : MethodName) prog_1_method_27_code (2 : Nat) (Option.some (FieldType.object "ContainerKit$Container"))) ∈ lw_tbl := qt_tables_1_1 (List.mem_of_getElem? (i := 237) rfl)
theorem q_238 : (Cond.classLink "ContainerKit" (195 : Nat) "java/lang/IndexOutOfBoundsException") ∈ lw_tbl := qt_tables_1_1 (List.mem_of_getElem? (i := 238) rfl)
theorem q_239 : (Cond.instantiable "java/lang/IndexOutOfBoundsException" (6 : Nat)) ∈ lw_tbl := qt_tables_1_1 (List.mem_of_getElem? (i := 239) rfl)
theorem q_240 : (Cond.castable "java/lang/IndexOutOfBoundsException" "java/lang/IndexOutOfBoundsException") ∈ lw_tbl := qt_tables_1_2 (List.mem_of_getElem? (i := 0) rfl)
theorem q_241 : (Cond.selects "java/lang/IndexOutOfBoundsException" ({ cls := "java/lang/Throwable", name := "fillInStackTrace", desc := "(I)Ljava/lang/Throwable;" } : MethodName) ({ cls := "java/lang/Throwable", name := "fillInStackTrace", desc := "(I)Ljava/lang/Throwable;" } : MethodName)) ∈ lw_tbl := qt_tables_1_2 (List.mem_of_getElem? (i := 1) rfl)
theorem q_242 : (Cond.lays "java/lang/IndexOutOfBoundsException" "java/lang/Throwable" "cause" "Ljava/lang/Throwable;") ∈ lw_tbl := qt_tables_1_2 (List.mem_of_getElem? (i := 2) rfl)
theorem q_243 : (Cond.lays "java/lang/IndexOutOfBoundsException" "java/lang/Throwable" "stackTrace" "[Ljava/lang/StackTraceElement;") ∈ lw_tbl := qt_tables_1_2 (List.mem_of_getElem? (i := 3) rfl)
theorem q_244 : (Cond.lays "java/lang/IndexOutOfBoundsException" "java/lang/Throwable" "suppressedExceptions" "Ljava/util/List;") ∈ lw_tbl := qt_tables_1_2 (List.mem_of_getElem? (i := 4) rfl)
theorem q_245 : (Cond.lays "java/lang/IndexOutOfBoundsException" "java/lang/Throwable" "detailMessage" "Ljava/lang/String;") ∈ lw_tbl := qt_tables_1_2 (List.mem_of_getElem? (i := 5) rfl)
theorem q_246 : (Cond.lays "java/lang/IndexOutOfBoundsException" "java/lang/Throwable" "backtrace" "Ljava/lang/Object;") ∈ lw_tbl := qt_tables_1_2 (List.mem_of_getElem? (i := 6) rfl)
theorem q_247 : (Cond.stringRef "ContainerKit" (197 : Nat) "no such container") ∈ lw_tbl := qt_tables_1_2 (List.mem_of_getElem? (i := 7) rfl)
theorem q_248 : (Cond.methodLink "ContainerKit" (199 : Nat) ({ cls := "java/lang/IndexOutOfBoundsException", name := "<init>", desc := "(Ljava/lang/String;)V" } : MethodName)) ∈ lw_tbl := qt_tables_1_2 (List.mem_of_getElem? (i := 8) rfl)
theorem q_249 : (Cond.instanceMethod ({ cls := "java/lang/IndexOutOfBoundsException", name := "<init>", desc := "(Ljava/lang/String;)V" } : MethodName)) ∈ lw_tbl := qt_tables_1_2 (List.mem_of_getElem? (i := 9) rfl)
theorem q_250 : (Cond.code ({ cls := "java/lang/IndexOutOfBoundsException", name := "<init>", desc := "(Ljava/lang/String;)V" } : MethodName) prog_13_method_2_code (2 : Nat) (Option.none : Option FieldType)) ∈ lw_tbl := qt_tables_1_2 (List.mem_of_getElem? (i := 10) rfl)
theorem q_251 : (Cond.methodLink "java/lang/IndexOutOfBoundsException" (7 : Nat) ({ cls := "java/lang/RuntimeException", name := "<init>", desc := "(Ljava/lang/String;)V" } : MethodName)) ∈ lw_tbl := qt_tables_1_2 (List.mem_of_getElem? (i := 11) rfl)
theorem q_252 : (Cond.lays "java/lang/IndexOutOfBoundsException" "java/lang/Throwable" "depth" "I") ∈ lw_tbl := qt_tables_1_2 (List.mem_of_getElem? (i := 12) rfl)
theorem q_253 : (Cond.superclass "java/lang/IndexOutOfBoundsException" "java/lang/RuntimeException") ∈ lw_tbl := qt_tables_1_2 (List.mem_of_getElem? (i := 13) rfl)
theorem q_254 : (Cond.methodLink "ContainerKit" (46 : Nat) ({ cls := "ContainerKit$Container", name := "isList", desc := "()Z" } : MethodName)) ∈ lw_tbl := qt_tables_1_2 (List.mem_of_getElem? (i := 14) rfl)
theorem q_255 : (Cond.instanceMethod ({ cls := "ContainerKit$Container", name := "isList", desc := "()Z" } : MethodName)) ∈ lw_tbl := qt_tables_1_2 (List.mem_of_getElem? (i := 15) rfl)
theorem q_256 : (Cond.sameMethod "ContainerKit$Container" "ContainerKit$Container" "isList" "()Z") ∈ lw_tbl := qt_tables_1_2 (List.mem_of_getElem? (i := 16) rfl)
theorem q_257 : (Cond.selects "ContainerKit$Part" ({ cls := "ContainerKit$Container", name := "isList", desc := "()Z" } : MethodName) ({ cls := "ContainerKit$Container", name := "isList", desc := "()Z" } : MethodName)) ∈ lw_tbl := qt_tables_1_2 (List.mem_of_getElem? (i := 17) rfl)
theorem q_258 : (Cond.selects "ContainerKit$Range" ({ cls := "ContainerKit$Container", name := "isList", desc := "()Z" } : MethodName) ({ cls := "ContainerKit$Container", name := "isList", desc := "()Z" } : MethodName)) ∈ lw_tbl := qt_tables_1_2 (List.mem_of_getElem? (i := 18) rfl)
theorem q_259 : (Cond.selects "ContainerKit$Whole" ({ cls := "ContainerKit$Container", name := "isList", desc := "()Z" } : MethodName) ({ cls := "ContainerKit$Container", name := "isList", desc := "()Z" } : MethodName)) ∈ lw_tbl := qt_tables_1_2 (List.mem_of_getElem? (i := 19) rfl)
theorem q_260 : (Cond.code ({ cls := "ContainerKit$Container", name := "isList", desc := "()Z" } : MethodName) prog_2_method_7_code (1 : Nat) (Option.some FieldType.boolean)) ∈ lw_tbl := qt_tables_1_2 (List.mem_of_getElem? (i := 20) rfl)
theorem q_261 : (Cond.methodLink "ContainerKit" (50 : Nat) ({ cls := "ContainerKit$Container", name := "isSorted", desc := "()Z" } : MethodName)) ∈ lw_tbl := qt_tables_1_2 (List.mem_of_getElem? (i := 21) rfl)
theorem q_262 : (Cond.instanceMethod ({ cls := "ContainerKit$Container", name := "isSorted", desc := "()Z" } : MethodName)) ∈ lw_tbl := qt_tables_1_2 (List.mem_of_getElem? (i := 22) rfl)
theorem q_263 : (Cond.sameMethod "ContainerKit$Container" "ContainerKit$Container" "isSorted" "()Z") ∈ lw_tbl := qt_tables_1_2 (List.mem_of_getElem? (i := 23) rfl)
theorem q_264 : (Cond.selects "ContainerKit$Part" ({ cls := "ContainerKit$Container", name := "isSorted", desc := "()Z" } : MethodName) ({ cls := "ContainerKit$Container", name := "isSorted", desc := "()Z" } : MethodName)) ∈ lw_tbl := qt_tables_1_2 (List.mem_of_getElem? (i := 24) rfl)
theorem q_265 : (Cond.selects "ContainerKit$Range" ({ cls := "ContainerKit$Container", name := "isSorted", desc := "()Z" } : MethodName) ({ cls := "ContainerKit$Container", name := "isSorted", desc := "()Z" } : MethodName)) ∈ lw_tbl := qt_tables_1_2 (List.mem_of_getElem? (i := 25) rfl)
theorem q_266 : (Cond.selects "ContainerKit$Whole" ({ cls := "ContainerKit$Container", name := "isSorted", desc := "()Z" } : MethodName) ({ cls := "ContainerKit$Container", name := "isSorted", desc := "()Z" } : MethodName)) ∈ lw_tbl := qt_tables_1_2 (List.mem_of_getElem? (i := 26) rfl)
theorem q_267 : (Cond.code ({ cls := "ContainerKit$Container", name := "isSorted", desc := "()Z" } : MethodName) prog_2_method_10_code (1 : Nat) (Option.some FieldType.boolean)) ∈ lw_tbl := qt_tables_1_2 (List.mem_of_getElem? (i := 27) rfl)
theorem q_268 : (Cond.methodLink "ContainerKit" (53 : Nat) ({ cls := "ContainerKit", name := "demandKind", desc := "(Z)V" } : MethodName)) ∈ lw_tbl := qt_tables_1_2 (List.mem_of_getElem? (i := 28) rfl)
theorem q_269 : (Cond.static ({ cls := "ContainerKit", name := "demandKind", desc := "(Z)V" } : MethodName)) ∈ lw_tbl := qt_tables_1_2 (List.mem_of_getElem? (i := 29) rfl)
theorem q_270 : (Cond.code ({ cls := "ContainerKit", name := "demandKind", desc := "(Z)V" } : MethodName) prog_1_method_37_code (1 : Nat) (Option.none : Option FieldType)) ∈ lw_tbl := qt_tables_1_2 (List.mem_of_getElem? (i := 30) rfl)
theorem q_271 : (Cond.classLink "ContainerKit" (239 : Nat) "java/lang/UnsupportedOperationException") ∈ lw_tbl := qt_tables_1_2 (List.mem_of_getElem? (i := 31) rfl)
theorem q_272 : (Cond.instantiable "java/lang/UnsupportedOperationException" (6 : Nat)) ∈ lw_tbl := qt_tables_1_2 (List.mem_of_getElem? (i := 32) rfl)
theorem q_273 : (Cond.castable "java/lang/UnsupportedOperationException" "java/lang/UnsupportedOperationException") ∈ lw_tbl := qt_tables_1_2 (List.mem_of_getElem? (i := 33) rfl)
theorem q_274 : (Cond.selects "java/lang/UnsupportedOperationException" ({ cls := "java/lang/Throwable", name := "fillInStackTrace", desc := "(I)Ljava/lang/Throwable;" } : MethodName) ({ cls := "java/lang/Throwable", name := "fillInStackTrace", desc := "(I)Ljava/lang/Throwable;" } : MethodName)) ∈ lw_tbl := qt_tables_1_2 (List.mem_of_getElem? (i := 34) rfl)
theorem q_275 : (Cond.lays "java/lang/UnsupportedOperationException" "java/lang/Throwable" "cause" "Ljava/lang/Throwable;") ∈ lw_tbl := qt_tables_1_2 (List.mem_of_getElem? (i := 35) rfl)
theorem q_276 : (Cond.lays "java/lang/UnsupportedOperationException" "java/lang/Throwable" "stackTrace" "[Ljava/lang/StackTraceElement;") ∈ lw_tbl := qt_tables_1_2 (List.mem_of_getElem? (i := 36) rfl)
theorem q_277 : (Cond.lays "java/lang/UnsupportedOperationException" "java/lang/Throwable" "suppressedExceptions" "Ljava/util/List;") ∈ lw_tbl := qt_tables_1_2 (List.mem_of_getElem? (i := 37) rfl)
theorem q_278 : (Cond.lays "java/lang/UnsupportedOperationException" "java/lang/Throwable" "detailMessage" "Ljava/lang/String;") ∈ lw_tbl := qt_tables_1_2 (List.mem_of_getElem? (i := 38) rfl)
theorem q_279 : (Cond.lays "java/lang/UnsupportedOperationException" "java/lang/Throwable" "backtrace" "Ljava/lang/Object;") ∈ lw_tbl := qt_tables_1_2 (List.mem_of_getElem? (i := 39) rfl)
theorem q_280 : (Cond.stringRef "ContainerKit" (241 : Nat) "not for this kind of container") ∈ lw_tbl := qt_tables_1_2 (List.mem_of_getElem? (i := 40) rfl)
theorem q_281 : (Cond.methodLink "ContainerKit" (243 : Nat) ({ cls := "java/lang/UnsupportedOperationException", name := "<init>", desc := "(Ljava/lang/String;)V" } : MethodName)) ∈ lw_tbl := qt_tables_1_2 (List.mem_of_getElem? (i := 41) rfl)
theorem q_282 : (Cond.instanceMethod ({ cls := "java/lang/UnsupportedOperationException", name := "<init>", desc := "(Ljava/lang/String;)V" } : MethodName)) ∈ lw_tbl := qt_tables_1_2 (List.mem_of_getElem? (i := 42) rfl)
theorem q_283 : (Cond.code ({ cls := "java/lang/UnsupportedOperationException", name := "<init>", desc := "(Ljava/lang/String;)V" } : MethodName) prog_18_method_2_code (2 : Nat) (Option.none : Option FieldType)) ∈ lw_tbl := qt_tables_1_2 (List.mem_of_getElem? (i := 43) rfl)
theorem q_284 : (Cond.methodLink "java/lang/UnsupportedOperationException" (7 : Nat) ({ cls := "java/lang/RuntimeException", name := "<init>", desc := "(Ljava/lang/String;)V" } : MethodName)) ∈ lw_tbl := qt_tables_1_2 (List.mem_of_getElem? (i := 44) rfl)
theorem q_285 : (Cond.lays "java/lang/UnsupportedOperationException" "java/lang/Throwable" "depth" "I") ∈ lw_tbl := qt_tables_1_2 (List.mem_of_getElem? (i := 45) rfl)
theorem q_286 : (Cond.superclass "java/lang/UnsupportedOperationException" "java/lang/RuntimeException") ∈ lw_tbl := qt_tables_1_2 (List.mem_of_getElem? (i := 46) rfl)
theorem q_287 : (Cond.methodLink "ContainerKit" (56 : Nat) ({ cls := "ContainerKit", name := "demandFresh", desc := "(LContainerKit$Container;)V" } : MethodName)) ∈ lw_tbl := qt_tables_1_2 (List.mem_of_getElem? (i := 47) rfl)
theorem q_288 : (Cond.static ({ cls := "ContainerKit", name := "demandFresh", desc := "(LContainerKit$Container;)V" } : MethodName)) ∈ lw_tbl := qt_tables_1_2 (List.mem_of_getElem? (i := 48) rfl)
theorem q_289 : (Cond.code ({ cls := "ContainerKit", name := "demandFresh", desc := "(LContainerKit$Container;)V" } : MethodName) prog_1_method_40_code (1 : Nat) (Option.none : Option FieldType)) ∈ lw_tbl := qt_tables_1_2 (List.mem_of_getElem? (i := 49) rfl)
theorem q_290 : (Cond.methodLink "ContainerKit" (254 : Nat) ({ cls := "ContainerKit$Container", name := "isStale", desc := "()Z" } : MethodName)) ∈ lw_tbl := qt_tables_1_2 (List.mem_of_getElem? (i := 50) rfl)
theorem q_291 : (Cond.instanceMethod ({ cls := "ContainerKit$Container", name := "isStale", desc := "()Z" } : MethodName)) ∈ lw_tbl := qt_tables_1_2 (List.mem_of_getElem? (i := 51) rfl)
theorem q_292 : (Cond.sameMethod "ContainerKit$Container" "ContainerKit$Container" "isStale" "()Z") ∈ lw_tbl := qt_tables_1_2 (List.mem_of_getElem? (i := 52) rfl)
theorem q_293 : (Cond.selects "ContainerKit$Part" ({ cls := "ContainerKit$Container", name := "isStale", desc := "()Z" } : MethodName) ({ cls := "ContainerKit$Part", name := "isStale", desc := "()Z" } : MethodName)) ∈ lw_tbl := qt_tables_1_2 (List.mem_of_getElem? (i := 53) rfl)
theorem q_294 : (Cond.instanceMethod ({ cls := "ContainerKit$Part", name := "isStale", desc := "()Z" } : MethodName)) ∈ lw_tbl := qt_tables_1_2 (List.mem_of_getElem? (i := 54) rfl)
theorem q_295 : (Cond.code ({ cls := "ContainerKit$Part", name := "isStale", desc := "()Z" } : MethodName) prog_3_method_4_code (1 : Nat) (Option.some FieldType.boolean)) ∈ lw_tbl := qt_tables_1_2 (List.mem_of_getElem? (i := 55) rfl)
theorem q_296 : (Cond.selects "ContainerKit$Range" ({ cls := "ContainerKit$Container", name := "isStale", desc := "()Z" } : MethodName) ({ cls := "ContainerKit$Container", name := "isStale", desc := "()Z" } : MethodName)) ∈ lw_tbl := qt_tables_1_2 (List.mem_of_getElem? (i := 56) rfl)
theorem q_297 : (Cond.selects "ContainerKit$Whole" ({ cls := "ContainerKit$Container", name := "isStale", desc := "()Z" } : MethodName) ({ cls := "ContainerKit$Container", name := "isStale", desc := "()Z" } : MethodName)) ∈ lw_tbl := qt_tables_1_2 (List.mem_of_getElem? (i := 57) rfl)
theorem q_298 : (Cond.code ({ cls := "ContainerKit$Container", name := "isStale", desc := "()Z" } : MethodName) prog_2_method_4_code (1 : Nat) (Option.some FieldType.boolean)) ∈ lw_tbl := qt_tables_1_2 (List.mem_of_getElem? (i := 58) rfl)
theorem q_299 : (Cond.classLink "ContainerKit" (257 : Nat) "java/lang/RuntimeException") ∈ lw_tbl := qt_tables_1_2 (List.mem_of_getElem? (i := 59) rfl)
theorem q_300 : (Cond.instantiable "java/lang/RuntimeException" (6 : Nat)) ∈ lw_tbl := qt_tables_1_2 (List.mem_of_getElem? (i := 60) rfl)
theorem q_301 : (Cond.castable "java/lang/RuntimeException" "java/lang/RuntimeException") ∈ lw_tbl := qt_tables_1_2 (List.mem_of_getElem? (i := 61) rfl)
theorem q_302 : (Cond.selects "java/lang/RuntimeException" ({ cls := "java/lang/Throwable", name := "fillInStackTrace", desc := "(I)Ljava/lang/Throwable;" } : MethodName) ({ cls := "java/lang/Throwable", name := "fillInStackTrace", desc := "(I)Ljava/lang/Throwable;" } : MethodName)) ∈ lw_tbl := qt_tables_1_2 (List.mem_of_getElem? (i := 62) rfl)
theorem q_303 : (Cond.lays "java/lang/RuntimeException" "java/lang/Throwable" "cause" "Ljava/lang/Throwable;") ∈ lw_tbl := qt_tables_1_2 (List.mem_of_getElem? (i := 63) rfl)
theorem q_304 : (Cond.lays "java/lang/RuntimeException" "java/lang/Throwable" "stackTrace" "[Ljava/lang/StackTraceElement;") ∈ lw_tbl := qt_tables_1_2 (List.mem_of_getElem? (i := 64) rfl)
theorem q_305 : (Cond.lays "java/lang/RuntimeException" "java/lang/Throwable" "suppressedExceptions" "Ljava/util/List;") ∈ lw_tbl := qt_tables_1_2 (List.mem_of_getElem? (i := 65) rfl)
theorem q_306 : (Cond.lays "java/lang/RuntimeException" "java/lang/Throwable" "detailMessage" "Ljava/lang/String;") ∈ lw_tbl := qt_tables_1_2 (List.mem_of_getElem? (i := 66) rfl)
theorem q_307 : (Cond.lays "java/lang/RuntimeException" "java/lang/Throwable" "backtrace" "Ljava/lang/Object;") ∈ lw_tbl := qt_tables_1_2 (List.mem_of_getElem? (i := 67) rfl)
theorem q_308 : (Cond.stringRef "ContainerKit" (259 : Nat) "the list is stale") ∈ lw_tbl := qt_tables_1_2 (List.mem_of_getElem? (i := 68) rfl)
theorem q_309 : (Cond.methodLink "ContainerKit" (261 : Nat) ({ cls := "java/lang/RuntimeException", name := "<init>", desc := "(Ljava/lang/String;)V" } : MethodName)) ∈ lw_tbl := qt_tables_1_2 (List.mem_of_getElem? (i := 69) rfl)
theorem q_310 : (Cond.lays "java/lang/RuntimeException" "java/lang/Throwable" "depth" "I") ∈ lw_tbl := qt_tables_1_2 (List.mem_of_getElem? (i := 70) rfl)
theorem q_311 : (Cond.superclass "java/lang/RuntimeException" "java/lang/Exception") ∈ lw_tbl := qt_tables_1_2 (List.mem_of_getElem? (i := 71) rfl)
theorem q_312 : (Cond.methodLink "ContainerKit" (60 : Nat) ({ cls := "ContainerKit$Container", name := "count", desc := "()I" } : MethodName)) ∈ lw_tbl := qt_tables_1_2 (List.mem_of_getElem? (i := 72) rfl)
theorem q_313 : (Cond.declares ({ cls := "ContainerKit$Container", name := "count", desc := "()I" } : MethodName)) ∈ lw_tbl := qt_tables_1_2 (List.mem_of_getElem? (i := 73) rfl)
theorem q_314 : (Cond.sameMethod "ContainerKit$Container" "ContainerKit$Container" "count" "()I") ∈ lw_tbl := qt_tables_1_2 (List.mem_of_getElem? (i := 74) rfl)
theorem q_315 : (Cond.selects "ContainerKit$Part" ({ cls := "ContainerKit$Container", name := "count", desc := "()I" } : MethodName) ({ cls := "ContainerKit$Part", name := "count", desc := "()I" } : MethodName)) ∈ lw_tbl := qt_tables_1_2 (List.mem_of_getElem? (i := 75) rfl)
theorem q_316 : (Cond.instanceMethod ({ cls := "ContainerKit$Part", name := "count", desc := "()I" } : MethodName)) ∈ lw_tbl := qt_tables_1_2 (List.mem_of_getElem? (i := 76) rfl)
theorem q_317 : (Cond.code ({ cls := "ContainerKit$Part", name := "count", desc := "()I" } : MethodName) prog_3_method_3_code (1 : Nat) (Option.some FieldType.int)) ∈ lw_tbl := qt_tables_1_2 (List.mem_of_getElem? (i := 77) rfl)
theorem q_318 : (Cond.selects "ContainerKit$Range" ({ cls := "ContainerKit$Container", name := "count", desc := "()I" } : MethodName) ({ cls := "ContainerKit$Range", name := "count", desc := "()I" } : MethodName)) ∈ lw_tbl := qt_tables_1_2 (List.mem_of_getElem? (i := 78) rfl)
theorem q_319 : (Cond.instanceMethod ({ cls := "ContainerKit$Range", name := "count", desc := "()I" } : MethodName)) ∈ lw_tbl := qt_tables_1_2 (List.mem_of_getElem? (i := 79) rfl)
theorem q_320 : (Cond.code ({ cls := "ContainerKit$Range", name := "count", desc := "()I" } : MethodName) prog_4_method_3_code (1 : Nat) (Option.some FieldType.int)) ∈ lw_tbl := qt_tables_1_2 (List.mem_of_getElem? (i := 80) rfl)
theorem q_321 : (Cond.methodLink "ContainerKit$Range" (22 : Nat) ({ cls := "ContainerKit$Store", name := "placesBefore", desc := "(IZ)I" } : MethodName)) ∈ lw_tbl := qt_tables_1_2 (List.mem_of_getElem? (i := 81) rfl)
theorem q_322 : (Cond.instanceMethod ({ cls := "ContainerKit$Store", name := "placesBefore", desc := "(IZ)I" } : MethodName)) ∈ lw_tbl := qt_tables_1_2 (List.mem_of_getElem? (i := 82) rfl)
theorem q_323 : (Cond.selects "ContainerKit$Store" ({ cls := "ContainerKit$Store", name := "placesBefore", desc := "(IZ)I" } : MethodName) ({ cls := "ContainerKit$Store", name := "placesBefore", desc := "(IZ)I" } : MethodName)) ∈ lw_tbl := qt_tables_1_2 (List.mem_of_getElem? (i := 83) rfl)
theorem q_324 : (Cond.code ({ cls := "ContainerKit$Store", name := "placesBefore", desc := "(IZ)I" } : MethodName) prog_5_method_9_code (5 : Nat) (Option.some FieldType.int)) ∈ lw_tbl := qt_tables_1_2 (List.mem_of_getElem? (i := 84) rfl)
theorem q_325 : (Cond.methodLink "ContainerKit$Range" (28 : Nat) ({ cls := "ContainerKit$Range", name := "start", desc := "()I" } : MethodName)) ∈ lw_tbl := qt_tables_1_2 (List.mem_of_getElem? (i := 85) rfl)
theorem q_326 : (Cond.instanceMethod ({ cls := "ContainerKit$Range", name := "start", desc := "()I" } : MethodName)) ∈ lw_tbl := qt_tables_1_2 (List.mem_of_getElem? (i := 86) rfl)
theorem q_327 : (Cond.selects "ContainerKit$Range" ({ cls := "ContainerKit$Range", name := "start", desc := "()I" } : MethodName) ({ cls := "ContainerKit$Range", name := "start", desc := "()I" } : MethodName)) ∈ lw_tbl := qt_tables_1_2 (List.mem_of_getElem? (i := 87) rfl)
theorem q_328 : (Cond.code ({ cls := "ContainerKit$Range", name := "start", desc := "()I" } : MethodName) prog_4_method_2_code (1 : Nat) (Option.some FieldType.int)) ∈ lw_tbl := qt_tables_1_2 (List.mem_of_getElem? (i := 88) rfl)
theorem q_329 : (Cond.methodLink "ContainerKit$Range" (32 : Nat) ({ cls := "java/lang/Math", name := "max", desc := "(II)I" } : MethodName)) ∈ lw_tbl := qt_tables_1_2 (List.mem_of_getElem? (i := 89) rfl)
theorem q_330 : (Cond.static ({ cls := "java/lang/Math", name := "max", desc := "(II)I" } : MethodName)) ∈ lw_tbl := qt_tables_1_2 (List.mem_of_getElem? (i := 90) rfl)
theorem q_331 : (Cond.code ({ cls := "java/lang/Math", name := "max", desc := "(II)I" } : MethodName) prog_14_method_65_code (2 : Nat) (Option.some FieldType.int)) ∈ lw_tbl := qt_tables_1_2 (List.mem_of_getElem? (i := 91) rfl)
theorem q_332 : (Cond.selects "ContainerKit$Whole" ({ cls := "ContainerKit$Container", name := "count", desc := "()I" } : MethodName) ({ cls := "ContainerKit$Whole", name := "count", desc := "()I" } : MethodName)) ∈ lw_tbl := qt_tables_1_2 (List.mem_of_getElem? (i := 92) rfl)
theorem q_333 : (Cond.instanceMethod ({ cls := "ContainerKit$Whole", name := "count", desc := "()I" } : MethodName)) ∈ lw_tbl := qt_tables_1_2 (List.mem_of_getElem? (i := 93) rfl)
theorem q_334 : (Cond.code ({ cls := "ContainerKit$Whole", name := "count", desc := "()I" } : MethodName) prog_7_method_3_code (1 : Nat) (Option.some FieldType.int)) ∈ lw_tbl := qt_tables_1_2 (List.mem_of_getElem? (i := 94) rfl)
theorem q_335 : (Cond.methodLink "ContainerKit" (64 : Nat) ({ cls := "ContainerKit", name := "rangeOf", desc := "(LContainerKit$Container;II)LContainerKit$Container;" } : MethodName)) ∈ lw_tbl := qt_tables_1_2 (List.mem_of_getElem? (i := 95) rfl)
theorem q_336 : (Cond.static ({ cls := "ContainerKit", name := "rangeOf", desc := "(LContainerKit$Container;II)LContainerKit$Container;" } : MethodName)) ∈ lw_tbl := qt_tables_1_2 (List.mem_of_getElem? (i := 96) rfl)
theorem q_337 : (Cond.code ({ cls := "ContainerKit", name := "rangeOf", desc := "(LContainerKit$Container;II)LContainerKit$Container;" } : MethodName) prog_1_method_35_code (4 : Nat) (Option.some (FieldType.object "ContainerKit$Container"))) ∈ lw_tbl := qt_tables_1_2 (List.mem_of_getElem? (i := 97) rfl)
theorem q_338 : (Cond.classLink "ContainerKit" (214 : Nat) "ContainerKit$Range") ∈ lw_tbl := qt_tables_1_2 (List.mem_of_getElem? (i := 98) rfl)
theorem q_339 : (Cond.instantiable "ContainerKit$Range" (4 : Nat)) ∈ lw_tbl := qt_tables_1_2 (List.mem_of_getElem? (i := 99) rfl)
theorem q_340 : (Cond.methodLink "ContainerKit" (220 : Nat) ({ cls := "java/lang/Math", name := "max", desc := "(II)I" } : MethodName)) ∈ lw_tbl := qt_tables_1_2 (List.mem_of_getElem? (i := 100) rfl)
theorem q_341 : (Cond.methodLink "ContainerKit" (228 : Nat) ({ cls := "java/lang/Math", name := "min", desc := "(II)I" } : MethodName)) ∈ lw_tbl := qt_tables_1_2 (List.mem_of_getElem? (i := 101) rfl)
theorem q_342 : (Cond.static ({ cls := "java/lang/Math", name := "min", desc := "(II)I" } : MethodName)) ∈ lw_tbl := qt_tables_1_2 (List.mem_of_getElem? (i := 102) rfl)
theorem q_343 : (Cond.code ({ cls := "java/lang/Math", name := "min", desc := "(II)I" } : MethodName) prog_14_method_69_code (2 : Nat) (Option.some FieldType.int)) ∈ lw_tbl := qt_tables_1_2 (List.mem_of_getElem? (i := 103) rfl)
theorem q_344 : (Cond.methodLink "ContainerKit" (231 : Nat) ({ cls := "ContainerKit$Range", name := "<init>", desc := "(LContainerKit$Store;II)V" } : MethodName)) ∈ lw_tbl := qt_tables_1_2 (List.mem_of_getElem? (i := 104) rfl)
theorem q_345 : (Cond.instanceMethod ({ cls := "ContainerKit$Range", name := "<init>", desc := "(LContainerKit$Store;II)V" } : MethodName)) ∈ lw_tbl := qt_tables_1_2 (List.mem_of_getElem? (i := 105) rfl)
theorem q_346 : (Cond.code ({ cls := "ContainerKit$Range", name := "<init>", desc := "(LContainerKit$Store;II)V" } : MethodName) prog_4_method_1_code (4 : Nat) (Option.none : Option FieldType)) ∈ lw_tbl := qt_tables_1_2 (List.mem_of_getElem? (i := 106) rfl)
theorem q_347 : (Cond.methodLink "ContainerKit$Range" (3 : Nat) ({ cls := "ContainerKit$Container", name := "<init>", desc := "(ILContainerKit$Store;)V" } : MethodName)) ∈ lw_tbl := qt_tables_1_2 (List.mem_of_getElem? (i := 107) rfl)
theorem q_348 : (Cond.fieldLink "ContainerKit$Range" (9 : Nat) "ContainerKit$Range" "low" "I") ∈ lw_tbl := qt_tables_1_2 (List.mem_of_getElem? (i := 108) rfl)
theorem q_349 : (Cond.fieldLinkNest "ContainerKit" (217 : Nat) "ContainerKit$Range" "low" "I" "ContainerKit") ∈ lw_tbl := qt_tables_1_2 (List.mem_of_getElem? (i := 109) rfl)
theorem q_350 : (Cond.fieldLink "ContainerKit$Range" (15 : Nat) "ContainerKit$Range" "high" "I") ∈ lw_tbl := qt_tables_1_2 (List.mem_of_getElem? (i := 110) rfl)
theorem q_351 : (Cond.fieldLinkNest "ContainerKit" (225 : Nat) "ContainerKit$Range" "high" "I" "ContainerKit") ∈ lw_tbl := qt_tables_1_2 (List.mem_of_getElem? (i := 111) rfl)
theorem q_352 : (Cond.laysFinal "ContainerKit$Range" "ContainerKit$Range" "low" "I") ∈ lw_tbl := qt_tables_1_2 (List.mem_of_getElem? (i := 112) rfl)
theorem q_353 : (Cond.soleField "ContainerKit$Range" "low") ∈ lw_tbl := qt_tables_1_2 (List.mem_of_getElem? (i := 113) rfl)
theorem q_354 : (Cond.laysFinal "ContainerKit$Range" "ContainerKit$Range" "high" "I") ∈ lw_tbl := qt_tables_1_2 (List.mem_of_getElem? (i := 114) rfl)
theorem q_355 : (Cond.soleField "ContainerKit$Range" "high") ∈ lw_tbl := qt_tables_1_2 (List.mem_of_getElem? (i := 115) rfl)
theorem q_356 : (Cond.laysFinal "ContainerKit$Range" "ContainerKit$Container" "kind" "I") ∈ lw_tbl := qt_tables_1_2 (List.mem_of_getElem? (i := 116) rfl)
theorem q_357 : (Cond.laysFinal "ContainerKit$Range" "ContainerKit$Container" "store" "LContainerKit$Store;") ∈ lw_tbl := qt_tables_1_2 (List.mem_of_getElem? (i := 117) rfl)
theorem q_358 : (Cond.superclass "ContainerKit$Range" "ContainerKit$Container") ∈ lw_tbl := qt_tables_1_2 (List.mem_of_getElem? (i := 118) rfl)
theorem q_359 : (Cond.methodLink "ContainerKit" (68 : Nat) ({ cls := "ContainerKit", name := "partOf", desc := "(LContainerKit$Container;II)LContainerKit$Container;" } : MethodName)) ∈ lw_tbl := qt_tables_1_2 (List.mem_of_getElem? (i := 119) rfl)
theorem q_360 : (Cond.static ({ cls := "ContainerKit", name := "partOf", desc := "(LContainerKit$Container;II)LContainerKit$Container;" } : MethodName)) ∈ lw_tbl := qt_tables_1_2 (List.mem_of_getElem? (i := 120) rfl)
theorem q_361 : (Cond.code ({ cls := "ContainerKit", name := "partOf", desc := "(LContainerKit$Container;II)LContainerKit$Container;" } : MethodName) prog_1_method_34_code (4 : Nat) (Option.some (FieldType.object "ContainerKit$Container"))) ∈ lw_tbl := qt_tables_1_2 (List.mem_of_getElem? (i := 121) rfl)
theorem q_362 : (Cond.classLink "ContainerKit" (206 : Nat) "ContainerKit$Part") ∈ lw_tbl := qt_tables_1_2 (List.mem_of_getElem? (i := 122) rfl)
theorem q_363 : (Cond.instantiable "ContainerKit$Part" (6 : Nat)) ∈ lw_tbl := qt_tables_1_2 (List.mem_of_getElem? (i := 123) rfl)
theorem q_364 : (Cond.methodLink "ContainerKit" (208 : Nat) ({ cls := "ContainerKit$Container", name := "start", desc := "()I" } : MethodName)) ∈ lw_tbl := qt_tables_1_2 (List.mem_of_getElem? (i := 124) rfl)
theorem q_365 : (Cond.declares ({ cls := "ContainerKit$Container", name := "start", desc := "()I" } : MethodName)) ∈ lw_tbl := qt_tables_1_2 (List.mem_of_getElem? (i := 125) rfl)
theorem q_366 : (Cond.sameMethod "ContainerKit$Container" "ContainerKit$Container" "start" "()I") ∈ lw_tbl := qt_tables_1_2 (List.mem_of_getElem? (i := 126) rfl)
theorem q_367 : (Cond.selects "ContainerKit$Part" ({ cls := "ContainerKit$Container", name := "start", desc := "()I" } : MethodName) ({ cls := "ContainerKit$Part", name := "start", desc := "()I" } : MethodName)) ∈ lw_tbl := qt_tables_1_2 (List.mem_of_getElem? (i := 127) rfl)
theorem q_368 : (Cond.instanceMethod ({ cls := "ContainerKit$Part", name := "start", desc := "()I" } : MethodName)) ∈ lw_tbl := qt_tables_1_2 (List.mem_of_getElem? (i := 128) rfl)
theorem q_369 : (Cond.code ({ cls := "ContainerKit$Part", name := "start", desc := "()I" } : MethodName) prog_3_method_2_code (1 : Nat) (Option.some FieldType.int)) ∈ lw_tbl := qt_tables_1_2 (List.mem_of_getElem? (i := 129) rfl)
theorem q_370 : (Cond.selects "ContainerKit$Range" ({ cls := "ContainerKit$Container", name := "start", desc := "()I" } : MethodName) ({ cls := "ContainerKit$Range", name := "start", desc := "()I" } : MethodName)) ∈ lw_tbl := qt_tables_1_2 (List.mem_of_getElem? (i := 130) rfl)
theorem q_371 : (Cond.selects "ContainerKit$Whole" ({ cls := "ContainerKit$Container", name := "start", desc := "()I" } : MethodName) ({ cls := "ContainerKit$Whole", name := "start", desc := "()I" } : MethodName)) ∈ lw_tbl := qt_tables_1_2 (List.mem_of_getElem? (i := 131) rfl)
theorem q_372 : (Cond.instanceMethod ({ cls := "ContainerKit$Whole", name := "start", desc := "()I" } : MethodName)) ∈ lw_tbl := qt_tables_1_2 (List.mem_of_getElem? (i := 132) rfl)
theorem q_373 : (Cond.code ({ cls := "ContainerKit$Whole", name := "start", desc := "()I" } : MethodName) prog_7_method_2_code (1 : Nat) (Option.some FieldType.int)) ∈ lw_tbl := qt_tables_1_2 (List.mem_of_getElem? (i := 133) rfl)
theorem q_374 : (Cond.methodLink "ContainerKit" (211 : Nat) ({ cls := "ContainerKit$Part", name := "<init>", desc := "(LContainerKit$Store;LContainerKit$Part;II)V" } : MethodName)) ∈ lw_tbl := qt_tables_1_2 (List.mem_of_getElem? (i := 134) rfl)
theorem q_375 : (Cond.instanceMethod ({ cls := "ContainerKit$Part", name := "<init>", desc := "(LContainerKit$Store;LContainerKit$Part;II)V" } : MethodName)) ∈ lw_tbl := qt_tables_1_2 (List.mem_of_getElem? (i := 135) rfl)
theorem q_376 : (Cond.code ({ cls := "ContainerKit$Part", name := "<init>", desc := "(LContainerKit$Store;LContainerKit$Part;II)V" } : MethodName) prog_3_method_1_code (5 : Nat) (Option.none : Option FieldType)) ∈ lw_tbl := qt_tables_1_2 (List.mem_of_getElem? (i := 136) rfl)
theorem q_377 : (Cond.methodLink "ContainerKit$Part" (3 : Nat) ({ cls := "ContainerKit$Container", name := "<init>", desc := "(ILContainerKit$Store;)V" } : MethodName)) ∈ lw_tbl := qt_tables_1_2 (List.mem_of_getElem? (i := 137) rfl)
theorem q_378 : (Cond.fieldLink "ContainerKit$Part" (9 : Nat) "ContainerKit$Part" "above" "LContainerKit$Part;") ∈ lw_tbl := qt_tables_1_2 (List.mem_of_getElem? (i := 138) rfl)
theorem q_379 : (Cond.fieldLink "ContainerKit$Part" (15 : Nat) "ContainerKit$Part" "start" "I") ∈ lw_tbl := qt_tables_1_2 (List.mem_of_getElem? (i := 139) rfl)
theorem q_380 : (Cond.fieldLink "ContainerKit$Part" (19 : Nat) "ContainerKit$Part" "count" "I") ∈ lw_tbl := qt_tables_1_2 (List.mem_of_getElem? (i := 140) rfl)
theorem q_381 : (Cond.fieldLink "ContainerKit$Part" (27 : Nat) "ContainerKit$Part" "seenChanges" "I") ∈ lw_tbl := qt_tables_1_2 (List.mem_of_getElem? (i := 141) rfl)
theorem q_382 : (Cond.laysFinal "ContainerKit$Part" "ContainerKit$Part" "above" "LContainerKit$Part;") ∈ lw_tbl := qt_tables_1_2 (List.mem_of_getElem? (i := 142) rfl)
theorem q_383 : (Cond.soleField "ContainerKit$Part" "above") ∈ lw_tbl := qt_tables_1_2 (List.mem_of_getElem? (i := 143) rfl)
theorem q_384 : (Cond.laysFinal "ContainerKit$Part" "ContainerKit$Part" "start" "I") ∈ lw_tbl := qt_tables_1_2 (List.mem_of_getElem? (i := 144) rfl)
theorem q_385 : (Cond.soleField "ContainerKit$Part" "start") ∈ lw_tbl := qt_tables_1_2 (List.mem_of_getElem? (i := 145) rfl)
theorem q_386 : (Cond.lays "ContainerKit$Part" "ContainerKit$Part" "count" "I") ∈ lw_tbl := qt_tables_1_2 (List.mem_of_getElem? (i := 146) rfl)
theorem q_387 : (Cond.soleField "ContainerKit$Part" "count") ∈ lw_tbl := qt_tables_1_2 (List.mem_of_getElem? (i := 147) rfl)
theorem q_388 : (Cond.lays "ContainerKit$Part" "ContainerKit$Part" "seenChanges" "I") ∈ lw_tbl := qt_tables_1_2 (List.mem_of_getElem? (i := 148) rfl)
theorem q_389 : (Cond.soleField "ContainerKit$Part" "seenChanges") ∈ lw_tbl := qt_tables_1_2 (List.mem_of_getElem? (i := 149) rfl)
theorem q_390 : (Cond.laysFinal "ContainerKit$Part" "ContainerKit$Container" "kind" "I") ∈ lw_tbl := qt_tables_1_2 (List.mem_of_getElem? (i := 150) rfl)
theorem q_391 : (Cond.laysFinal "ContainerKit$Part" "ContainerKit$Container" "store" "LContainerKit$Store;") ∈ lw_tbl := qt_tables_1_2 (List.mem_of_getElem? (i := 151) rfl)
theorem q_392 : (Cond.superclass "ContainerKit$Part" "ContainerKit$Container") ∈ lw_tbl := qt_tables_1_2 (List.mem_of_getElem? (i := 152) rfl)
theorem q_393 : (Cond.methodLink "ContainerKitLaw" (123 : Nat) ({ cls := "ContainerKitLaw", name := "kind", desc := "(LContainerKit;I[J)I" } : MethodName)) ∈ lw_tbl := qt_tables_1_2 (List.mem_of_getElem? (i := 153) rfl)
theorem q_394 : (Cond.static ({ cls := "ContainerKitLaw", name := "kind", desc := "(LContainerKit;I[J)I" } : MethodName)) ∈ lw_tbl := qt_tables_1_2 (List.mem_of_getElem? (i := 154) rfl)
theorem q_395 : (Cond.codeWith ({ cls := "ContainerKitLaw", name := "kind", desc := "(LContainerKit;I[J)I" } : MethodName) method_5_code (4 : Nat) (Option.some FieldType.int) [((0 : Nat), (9 : Nat), (12 : Nat), (21 : Nat))]) ∈ lw_tbl := qt_tables_1_2 (List.mem_of_getElem? (i := 155) rfl)
theorem q_396 : (Cond.methodLink "ContainerKitLaw" (27 : Nat) ({ cls := "ContainerKit", name := "kind", desc := "(I)I" } : MethodName)) ∈ lw_tbl := qt_tables_1_2 (List.mem_of_getElem? (i := 156) rfl)
theorem q_397 : (Cond.instanceMethod ({ cls := "ContainerKit", name := "kind", desc := "(I)I" } : MethodName)) ∈ lw_tbl := qt_tables_1_2 (List.mem_of_getElem? (i := 157) rfl)
theorem q_398 : (Cond.selects "ContainerKit" ({ cls := "ContainerKit", name := "kind", desc := "(I)I" } : MethodName) ({ cls := "ContainerKit", name := "kind", desc := "(I)I" } : MethodName)) ∈ lw_tbl := qt_tables_1_2 (List.mem_of_getElem? (i := 158) rfl)
theorem q_399 : (Cond.code ({ cls := "ContainerKit", name := "kind", desc := "(I)I" } : MethodName) prog_1_method_4_code (2 : Nat) (Option.some FieldType.int)) ∈ lw_tbl := qt_tables_1_2 (List.mem_of_getElem? (i := 159) rfl)
theorem q_400 : (Cond.methodLink "ContainerKitLaw" (126 : Nat) ({ cls := "ContainerKitLaw", name := "size", desc := "(LContainerKit;I[J)I" } : MethodName)) ∈ lw_tbl := qt_tables_1_2 (List.mem_of_getElem? (i := 160) rfl)
theorem q_401 : (Cond.static ({ cls := "ContainerKitLaw", name := "size", desc := "(LContainerKit;I[J)I" } : MethodName)) ∈ lw_tbl := qt_tables_1_2 (List.mem_of_getElem? (i := 161) rfl)
theorem q_402 : (Cond.codeWith ({ cls := "ContainerKitLaw", name := "size", desc := "(LContainerKit;I[J)I" } : MethodName) method_6_code (4 : Nat) (Option.some FieldType.int) [((0 : Nat), (9 : Nat), (12 : Nat), (21 : Nat)), ((0 : Nat), (9 : Nat), (15 : Nat), (25 : Nat))]) ∈ lw_tbl := qt_tables_1_2 (List.mem_of_getElem? (i := 162) rfl)
theorem q_403 : (Cond.methodLink "ContainerKitLaw" (30 : Nat) ({ cls := "ContainerKit", name := "size", desc := "(I)I" } : MethodName)) ∈ lw_tbl := qt_tables_1_2 (List.mem_of_getElem? (i := 163) rfl)
theorem q_404 : (Cond.instanceMethod ({ cls := "ContainerKit", name := "size", desc := "(I)I" } : MethodName)) ∈ lw_tbl := qt_tables_1_2 (List.mem_of_getElem? (i := 164) rfl)
theorem q_405 : (Cond.selects "ContainerKit" ({ cls := "ContainerKit", name := "size", desc := "(I)I" } : MethodName) ({ cls := "ContainerKit", name := "size", desc := "(I)I" } : MethodName)) ∈ lw_tbl := qt_tables_1_2 (List.mem_of_getElem? (i := 165) rfl)
theorem q_406 : (Cond.code ({ cls := "ContainerKit", name := "size", desc := "(I)I" } : MethodName) prog_1_method_5_code (3 : Nat) (Option.some FieldType.int)) ∈ lw_tbl := qt_tables_1_2 (List.mem_of_getElem? (i := 166) rfl)
theorem q_407 : (Cond.methodLink "ContainerKitLaw" (129 : Nat) ({ cls := "ContainerKitLaw", name := "get", desc := "(LContainerKit;II[J)I" } : MethodName)) ∈ lw_tbl := qt_tables_1_2 (List.mem_of_getElem? (i := 167) rfl)
theorem q_408 : (Cond.static ({ cls := "ContainerKitLaw", name := "get", desc := "(LContainerKit;II[J)I" } : MethodName)) ∈ lw_tbl := qt_tables_1_2 (List.mem_of_getElem? (i := 168) rfl)
theorem q_409 : (Cond.codeWith ({ cls := "ContainerKitLaw", name := "get", desc := "(LContainerKit;II[J)I" } : MethodName) method_7_code (5 : Nat) (Option.some FieldType.int) [((0 : Nat), (10 : Nat), (13 : Nat), (21 : Nat)), ((0 : Nat), (10 : Nat), (17 : Nat), (23 : Nat)), ((0 : Nat), (10 : Nat), (21 : Nat), (37 : Nat)), ((0 : Nat), (10 : Nat), (25 : Nat), (25 : Nat))]) ∈ lw_tbl := qt_tables_1_2 (List.mem_of_getElem? (i := 169) rfl)
theorem q_410 : (Cond.classLink "ContainerKitLaw" (37 : Nat) "java/util/NoSuchElementException") ∈ lw_tbl := qt_tables_1_2 (List.mem_of_getElem? (i := 170) rfl)
theorem q_411 : (Cond.methodLink "ContainerKitLaw" (33 : Nat) ({ cls := "ContainerKit", name := "get", desc := "(II)I" } : MethodName)) ∈ lw_tbl := qt_tables_1_2 (List.mem_of_getElem? (i := 171) rfl)
theorem q_412 : (Cond.instanceMethod ({ cls := "ContainerKit", name := "get", desc := "(II)I" } : MethodName)) ∈ lw_tbl := qt_tables_1_2 (List.mem_of_getElem? (i := 172) rfl)
theorem q_413 : (Cond.selects "ContainerKit" ({ cls := "ContainerKit", name := "get", desc := "(II)I" } : MethodName) ({ cls := "ContainerKit", name := "get", desc := "(II)I" } : MethodName)) ∈ lw_tbl := qt_tables_1_2 (List.mem_of_getElem? (i := 173) rfl)
theorem q_414 : (Cond.code ({ cls := "ContainerKit", name := "get", desc := "(II)I" } : MethodName) prog_1_method_6_code (4 : Nat) (Option.some FieldType.int)) ∈ lw_tbl := qt_tables_1_2 (List.mem_of_getElem? (i := 174) rfl)
theorem q_415 : (Cond.methodLink "ContainerKit" (74 : Nat) ({ cls := "ContainerKit", name := "freshList", desc := "(I)LContainerKit$Container;" } : MethodName)) ∈ lw_tbl := qt_tables_1_2 (List.mem_of_getElem? (i := 175) rfl)
theorem q_416 : (Cond.privateMethod ({ cls := "ContainerKit", name := "freshList", desc := "(I)LContainerKit$Container;" } : MethodName)) ∈ lw_tbl := qt_tables_1_2 (List.mem_of_getElem? (i := 176) rfl)
theorem q_417 : (Cond.instanceMethod ({ cls := "ContainerKit", name := "freshList", desc := "(I)LContainerKit$Container;" } : MethodName)) ∈ lw_tbl := qt_tables_1_2 (List.mem_of_getElem? (i := 177) rfl)
theorem q_418 : (Cond.code ({ cls := "ContainerKit", name := "freshList", desc := "(I)LContainerKit$Container;" } : MethodName) prog_1_method_29_code (3 : Nat) (Option.some (FieldType.object "ContainerKit$Container"))) ∈ lw_tbl := qt_tables_1_2 (List.mem_of_getElem? (i := 178) rfl)
theorem q_419 : (Cond.methodLink "ContainerKit" (77 : Nat) ({ cls := "ContainerKit$Container", name := "isPlace", desc := "(I)Z" } : MethodName)) ∈ lw_tbl := qt_tables_1_2 (List.mem_of_getElem? (i := 179) rfl)
theorem q_420 : (Cond.instanceMethod ({ cls := "ContainerKit$Container", name := "isPlace", desc := "(I)Z" } : MethodName)) ∈ lw_tbl := qt_tables_1_2 (List.mem_of_getElem? (i := 180) rfl)
theorem q_421 : (Cond.sameMethod "ContainerKit$Container" "ContainerKit$Container" "isPlace" "(I)Z") ∈ lw_tbl := qt_tables_1_2 (List.mem_of_getElem? (i := 181) rfl)
theorem q_422 : (Cond.selects "ContainerKit$Part" ({ cls := "ContainerKit$Container", name := "isPlace", desc := "(I)Z" } : MethodName) ({ cls := "ContainerKit$Container", name := "isPlace", desc := "(I)Z" } : MethodName)) ∈ lw_tbl := qt_tables_1_2 (List.mem_of_getElem? (i := 182) rfl)
theorem q_423 : (Cond.selects "ContainerKit$Range" ({ cls := "ContainerKit$Container", name := "isPlace", desc := "(I)Z" } : MethodName) ({ cls := "ContainerKit$Container", name := "isPlace", desc := "(I)Z" } : MethodName)) ∈ lw_tbl := qt_tables_1_2 (List.mem_of_getElem? (i := 183) rfl)
theorem q_424 : (Cond.selects "ContainerKit$Whole" ({ cls := "ContainerKit$Container", name := "isPlace", desc := "(I)Z" } : MethodName) ({ cls := "ContainerKit$Container", name := "isPlace", desc := "(I)Z" } : MethodName)) ∈ lw_tbl := qt_tables_1_2 (List.mem_of_getElem? (i := 184) rfl)
theorem q_425 : (Cond.code ({ cls := "ContainerKit$Container", name := "isPlace", desc := "(I)Z" } : MethodName) prog_2_method_11_code (2 : Nat) (Option.some FieldType.boolean)) ∈ lw_tbl := qt_tables_1_2 (List.mem_of_getElem? (i := 185) rfl)
theorem q_426 : (Cond.methodLink "ContainerKit$Container" (26 : Nat) ({ cls := "ContainerKit$Container", name := "count", desc := "()I" } : MethodName)) ∈ lw_tbl := qt_tables_1_2 (List.mem_of_getElem? (i := 186) rfl)
theorem q_427 : (Cond.methodLink "ContainerKit" (81 : Nat) ({ cls := "ContainerKit", name := "demandThere", desc := "(Z)V" } : MethodName)) ∈ lw_tbl := qt_tables_1_2 (List.mem_of_getElem? (i := 187) rfl)
theorem q_428 : (Cond.static ({ cls := "ContainerKit", name := "demandThere", desc := "(Z)V" } : MethodName)) ∈ lw_tbl := qt_tables_1_2 (List.mem_of_getElem? (i := 188) rfl)
theorem q_429 : (Cond.code ({ cls := "ContainerKit", name := "demandThere", desc := "(Z)V" } : MethodName) prog_1_method_39_code (1 : Nat) (Option.none : Option FieldType)) ∈ lw_tbl := qt_tables_1_2 (List.mem_of_getElem? (i := 189) rfl)
theorem q_430 : (Cond.classLink "ContainerKit" (249 : Nat) "java/util/NoSuchElementException") ∈ lw_tbl := qt_tables_1_2 (List.mem_of_getElem? (i := 190) rfl)
theorem q_431 : (Cond.instantiable "java/util/NoSuchElementException" (6 : Nat)) ∈ lw_tbl := qt_tables_1_2 (List.mem_of_getElem? (i := 191) rfl)
theorem q_432 : (Cond.castable "java/util/NoSuchElementException" "java/util/NoSuchElementException") ∈ lw_tbl := qt_tables_1_2 (List.mem_of_getElem? (i := 192) rfl)
theorem q_433 : (Cond.selects "java/util/NoSuchElementException" ({ cls := "java/lang/Throwable", name := "fillInStackTrace", desc := "(I)Ljava/lang/Throwable;" } : MethodName) ({ cls := "java/lang/Throwable", name := "fillInStackTrace", desc := "(I)Ljava/lang/Throwable;" } : MethodName)) ∈ lw_tbl := qt_tables_1_2 (List.mem_of_getElem? (i := 193) rfl)
theorem q_434 : (Cond.lays "java/util/NoSuchElementException" "java/lang/Throwable" "cause" "Ljava/lang/Throwable;") ∈ lw_tbl := qt_tables_1_2 (List.mem_of_getElem? (i := 194) rfl)
theorem q_435 : (Cond.lays "java/util/NoSuchElementException" "java/lang/Throwable" "stackTrace" "[Ljava/lang/StackTraceElement;") ∈ lw_tbl := qt_tables_1_2 (List.mem_of_getElem? (i := 195) rfl)
theorem q_436 : (Cond.lays "java/util/NoSuchElementException" "java/lang/Throwable" "suppressedExceptions" "Ljava/util/List;") ∈ lw_tbl := qt_tables_1_2 (List.mem_of_getElem? (i := 196) rfl)
theorem q_437 : (Cond.lays "java/util/NoSuchElementException" "java/lang/Throwable" "detailMessage" "Ljava/lang/String;") ∈ lw_tbl := qt_tables_1_2 (List.mem_of_getElem? (i := 197) rfl)
theorem q_438 : (Cond.lays "java/util/NoSuchElementException" "java/lang/Throwable" "backtrace" "Ljava/lang/Object;") ∈ lw_tbl := qt_tables_1_2 (List.mem_of_getElem? (i := 198) rfl)
theorem q_439 : (Cond.stringRef "ContainerKit" (251 : Nat) "there is none such") ∈ lw_tbl := qt_tables_1_2 (List.mem_of_getElem? (i := 199) rfl)
theorem q_440 : (Cond.methodLink "ContainerKit" (253 : Nat) ({ cls := "java/util/NoSuchElementException", name := "<init>", desc := "(Ljava/lang/String;)V" } : MethodName)) ∈ lw_tbl := qt_tables_1_2 (List.mem_of_getElem? (i := 200) rfl)
theorem q_441 : (Cond.instanceMethod ({ cls := "java/util/NoSuchElementException", name := "<init>", desc := "(Ljava/lang/String;)V" } : MethodName)) ∈ lw_tbl := qt_tables_1_2 (List.mem_of_getElem? (i := 201) rfl)
theorem q_442 : (Cond.code ({ cls := "java/util/NoSuchElementException", name := "<init>", desc := "(Ljava/lang/String;)V" } : MethodName) prog_19_method_4_code (2 : Nat) (Option.none : Option FieldType)) ∈ lw_tbl := qt_tables_1_2 (List.mem_of_getElem? (i := 202) rfl)
theorem q_443 : (Cond.methodLink "java/util/NoSuchElementException" (13 : Nat) ({ cls := "java/lang/RuntimeException", name := "<init>", desc := "(Ljava/lang/String;)V" } : MethodName)) ∈ lw_tbl := qt_tables_1_2 (List.mem_of_getElem? (i := 203) rfl)
theorem q_444 : (Cond.lays "java/util/NoSuchElementException" "java/lang/Throwable" "depth" "I") ∈ lw_tbl := qt_tables_1_2 (List.mem_of_getElem? (i := 204) rfl)
theorem q_445 : (Cond.superclass "java/util/NoSuchElementException" "java/lang/RuntimeException") ∈ lw_tbl := qt_tables_1_2 (List.mem_of_getElem? (i := 205) rfl)
theorem q_446 : (Cond.methodLink "ContainerKit" (84 : Nat) ({ cls := "ContainerKit$Container", name := "numberAt", desc := "(I)I" } : MethodName)) ∈ lw_tbl := qt_tables_1_2 (List.mem_of_getElem? (i := 206) rfl)
theorem q_447 : (Cond.instanceMethod ({ cls := "ContainerKit$Container", name := "numberAt", desc := "(I)I" } : MethodName)) ∈ lw_tbl := qt_tables_1_2 (List.mem_of_getElem? (i := 207) rfl)
theorem q_448 : (Cond.sameMethod "ContainerKit$Container" "ContainerKit$Container" "numberAt" "(I)I") ∈ lw_tbl := qt_tables_1_2 (List.mem_of_getElem? (i := 208) rfl)
theorem q_449 : (Cond.selects "ContainerKit$Part" ({ cls := "ContainerKit$Container", name := "numberAt", desc := "(I)I" } : MethodName) ({ cls := "ContainerKit$Container", name := "numberAt", desc := "(I)I" } : MethodName)) ∈ lw_tbl := qt_tables_1_2 (List.mem_of_getElem? (i := 209) rfl)
theorem q_450 : (Cond.selects "ContainerKit$Range" ({ cls := "ContainerKit$Container", name := "numberAt", desc := "(I)I" } : MethodName) ({ cls := "ContainerKit$Container", name := "numberAt", desc := "(I)I" } : MethodName)) ∈ lw_tbl := qt_tables_1_2 (List.mem_of_getElem? (i := 210) rfl)
theorem q_451 : (Cond.selects "ContainerKit$Whole" ({ cls := "ContainerKit$Container", name := "numberAt", desc := "(I)I" } : MethodName) ({ cls := "ContainerKit$Container", name := "numberAt", desc := "(I)I" } : MethodName)) ∈ lw_tbl := qt_tables_1_2 (List.mem_of_getElem? (i := 211) rfl)
theorem q_452 : (Cond.code ({ cls := "ContainerKit$Container", name := "numberAt", desc := "(I)I" } : MethodName) prog_2_method_12_code (2 : Nat) (Option.some FieldType.int)) ∈ lw_tbl := qt_tables_1_2 (List.mem_of_getElem? (i := 212) rfl)
theorem q_453 : (Cond.methodLink "ContainerKit$Container" (30 : Nat) ({ cls := "ContainerKit$Container", name := "start", desc := "()I" } : MethodName)) ∈ lw_tbl := qt_tables_1_2 (List.mem_of_getElem? (i := 213) rfl)
theorem q_454 : (Cond.methodLink "ContainerKit$Container" (33 : Nat) ({ cls := "ContainerKit$Store", name := "numberAt", desc := "(I)I" } : MethodName)) ∈ lw_tbl := qt_tables_1_2 (List.mem_of_getElem? (i := 214) rfl)
theorem q_455 : (Cond.instanceMethod ({ cls := "ContainerKit$Store", name := "numberAt", desc := "(I)I" } : MethodName)) ∈ lw_tbl := qt_tables_1_2 (List.mem_of_getElem? (i := 215) rfl)
theorem q_456 : (Cond.selects "ContainerKit$Store" ({ cls := "ContainerKit$Store", name := "numberAt", desc := "(I)I" } : MethodName) ({ cls := "ContainerKit$Store", name := "numberAt", desc := "(I)I" } : MethodName)) ∈ lw_tbl := qt_tables_1_2 (List.mem_of_getElem? (i := 216) rfl)
theorem q_457 : (Cond.code ({ cls := "ContainerKit$Store", name := "numberAt", desc := "(I)I" } : MethodName) prog_5_method_4_code (2 : Nat) (Option.some FieldType.int)) ∈ lw_tbl := qt_tables_1_2 (List.mem_of_getElem? (i := 217) rfl)
theorem q_458 : (Cond.methodLink "ContainerKit$Store" (31 : Nat) ({ cls := "ContainerKit$Store", name := "isHeld", desc := "(I)Z" } : MethodName)) ∈ lw_tbl := qt_tables_1_2 (List.mem_of_getElem? (i := 218) rfl)
theorem q_459 : (Cond.instanceMethod ({ cls := "ContainerKit$Store", name := "isHeld", desc := "(I)Z" } : MethodName)) ∈ lw_tbl := qt_tables_1_2 (List.mem_of_getElem? (i := 219) rfl)
theorem q_460 : (Cond.selects "ContainerKit$Store" ({ cls := "ContainerKit$Store", name := "isHeld", desc := "(I)Z" } : MethodName) ({ cls := "ContainerKit$Store", name := "isHeld", desc := "(I)Z" } : MethodName)) ∈ lw_tbl := qt_tables_1_2 (List.mem_of_getElem? (i := 220) rfl)
theorem q_461 : (Cond.code ({ cls := "ContainerKit$Store", name := "isHeld", desc := "(I)Z" } : MethodName) prog_5_method_3_code (2 : Nat) (Option.some FieldType.boolean)) ∈ lw_tbl := qt_tables_1_2 (List.mem_of_getElem? (i := 221) rfl)
theorem q_462 : (Cond.methodLink "ContainerKitLaw" (133 : Nat) ({ cls := "ContainerKitLaw", name := "set", desc := "(LContainerKit;III[J)I" } : MethodName)) ∈ lw_tbl := qt_tables_1_2 (List.mem_of_getElem? (i := 222) rfl)
theorem q_463 : (Cond.static ({ cls := "ContainerKitLaw", name := "set", desc := "(LContainerKit;III[J)I" } : MethodName)) ∈ lw_tbl := qt_tables_1_2 (List.mem_of_getElem? (i := 223) rfl)
theorem q_464 : (Cond.codeWith ({ cls := "ContainerKitLaw", name := "set", desc := "(LContainerKit;III[J)I" } : MethodName) method_8_code (6 : Nat) (Option.some FieldType.int) [((0 : Nat), (12 : Nat), (15 : Nat), (21 : Nat)), ((0 : Nat), (12 : Nat), (19 : Nat), (23 : Nat)), ((0 : Nat), (12 : Nat), (23 : Nat), (37 : Nat)), ((0 : Nat), (12 : Nat), (27 : Nat), (25 : Nat))]) ∈ lw_tbl := qt_tables_1_2 (List.mem_of_getElem? (i := 224) rfl)
theorem q_465 : (Cond.methodLink "ContainerKitLaw" (39 : Nat) ({ cls := "ContainerKit", name := "set", desc := "(III)I" } : MethodName)) ∈ lw_tbl := qt_tables_1_2 (List.mem_of_getElem? (i := 225) rfl)
theorem q_466 : (Cond.instanceMethod ({ cls := "ContainerKit", name := "set", desc := "(III)I" } : MethodName)) ∈ lw_tbl := qt_tables_1_2 (List.mem_of_getElem? (i := 226) rfl)
theorem q_467 : (Cond.selects "ContainerKit" ({ cls := "ContainerKit", name := "set", desc := "(III)I" } : MethodName) ({ cls := "ContainerKit", name := "set", desc := "(III)I" } : MethodName)) ∈ lw_tbl := qt_tables_1_2 (List.mem_of_getElem? (i := 227) rfl)
theorem q_468 : (Cond.code ({ cls := "ContainerKit", name := "set", desc := "(III)I" } : MethodName) prog_1_method_7_code (5 : Nat) (Option.some FieldType.int)) ∈ lw_tbl := qt_tables_1_2 (List.mem_of_getElem? (i := 228) rfl)
theorem q_469 : (Cond.methodLink "ContainerKit" (88 : Nat) ({ cls := "ContainerKit$Container", name := "changeNumber", desc := "(II)I" } : MethodName)) ∈ lw_tbl := qt_tables_1_2 (List.mem_of_getElem? (i := 229) rfl)
theorem q_470 : (Cond.instanceMethod ({ cls := "ContainerKit$Container", name := "changeNumber", desc := "(II)I" } : MethodName)) ∈ lw_tbl := qt_tables_1_2 (List.mem_of_getElem? (i := 230) rfl)
theorem q_471 : (Cond.sameMethod "ContainerKit$Container" "ContainerKit$Container" "changeNumber" "(II)I") ∈ lw_tbl := qt_tables_1_2 (List.mem_of_getElem? (i := 231) rfl)
theorem q_472 : (Cond.selects "ContainerKit$Part" ({ cls := "ContainerKit$Container", name := "changeNumber", desc := "(II)I" } : MethodName) ({ cls := "ContainerKit$Container", name := "changeNumber", desc := "(II)I" } : MethodName)) ∈ lw_tbl := qt_tables_1_2 (List.mem_of_getElem? (i := 232) rfl)
theorem q_473 : (Cond.selects "ContainerKit$Range" ({ cls := "ContainerKit$Container", name := "changeNumber", desc := "(II)I" } : MethodName) ({ cls := "ContainerKit$Container", name := "changeNumber", desc := "(II)I" } : MethodName)) ∈ lw_tbl := qt_tables_1_2 (List.mem_of_getElem? (i := 233) rfl)
theorem q_474 : (Cond.selects "ContainerKit$Whole" ({ cls := "ContainerKit$Container", name := "changeNumber", desc := "(II)I" } : MethodName) ({ cls := "ContainerKit$Container", name := "changeNumber", desc := "(II)I" } : MethodName)) ∈ lw_tbl := qt_tables_1_2 (List.mem_of_getElem? (i := 234) rfl)
theorem q_475 : (Cond.code ({ cls := "ContainerKit$Container", name := "changeNumber", desc := "(II)I" } : MethodName) prog_2_method_16_code (4 : Nat) (Option.some FieldType.int)) ∈ lw_tbl := qt_tables_1_2 (List.mem_of_getElem? (i := 235) rfl)
theorem q_476 : (Cond.methodLink "ContainerKit$Container" (62 : Nat) ({ cls := "ContainerKit$Container", name := "numberAt", desc := "(I)I" } : MethodName)) ∈ lw_tbl := qt_tables_1_2 (List.mem_of_getElem? (i := 236) rfl)
theorem q_477 : (Cond.methodLink "ContainerKit$Container" (63 : Nat) ({ cls := "ContainerKit$Store", name := "setNumber", desc := "(II)V" } : MethodName)) ∈ lw_tbl := qt_tables_1_2 (List.mem_of_getElem? (i := 237) rfl)
theorem q_478 : (Cond.instanceMethod ({ cls := "ContainerKit$Store", name := "setNumber", desc := "(II)V" } : MethodName)) ∈ lw_tbl := qt_tables_1_2 (List.mem_of_getElem? (i := 238) rfl)
theorem q_479 : (Cond.selects "ContainerKit$Store" ({ cls := "ContainerKit$Store", name := "setNumber", desc := "(II)V" } : MethodName) ({ cls := "ContainerKit$Store", name := "setNumber", desc := "(II)V" } : MethodName)) ∈ lw_tbl := qt_tables_1_2 (List.mem_of_getElem? (i := 239) rfl)
theorem q_480 : (Cond.code ({ cls := "ContainerKit$Store", name := "setNumber", desc := "(II)V" } : MethodName) prog_5_method_6_code (3 : Nat) (Option.none : Option FieldType)) ∈ lw_tbl := qt_tables_1_3 (List.mem_of_getElem? (i := 0) rfl)
theorem q_481 : (Cond.methodLink "ContainerKitLaw" (136 : Nat) ({ cls := "ContainerKitLaw", name := "insert", desc := "(LContainerKit;III)I" } : MethodName)) ∈ lw_tbl := qt_tables_1_3 (List.mem_of_getElem? (i := 1) rfl)
theorem q_482 : (Cond.static ({ cls := "ContainerKitLaw", name := "insert", desc := "(LContainerKit;III)I" } : MethodName)) ∈ lw_tbl := qt_tables_1_3 (List.mem_of_getElem? (i := 2) rfl)
theorem q_483 : (Cond.codeWith ({ cls := "ContainerKitLaw", name := "insert", desc := "(LContainerKit;III)I" } : MethodName) method_9_code (5 : Nat) (Option.some FieldType.int) [((0 : Nat), (7 : Nat), (10 : Nat), (21 : Nat)), ((0 : Nat), (7 : Nat), (14 : Nat), (23 : Nat)), ((0 : Nat), (7 : Nat), (18 : Nat), (37 : Nat)), ((0 : Nat), (7 : Nat), (22 : Nat), (15 : Nat)), ((0 : Nat), (7 : Nat), (26 : Nat), (25 : Nat))]) ∈ lw_tbl := qt_tables_1_3 (List.mem_of_getElem? (i := 3) rfl)
theorem q_484 : (Cond.methodLink "ContainerKitLaw" (42 : Nat) ({ cls := "ContainerKit", name := "insert", desc := "(III)V" } : MethodName)) ∈ lw_tbl := qt_tables_1_3 (List.mem_of_getElem? (i := 4) rfl)
theorem q_485 : (Cond.instanceMethod ({ cls := "ContainerKit", name := "insert", desc := "(III)V" } : MethodName)) ∈ lw_tbl := qt_tables_1_3 (List.mem_of_getElem? (i := 5) rfl)
theorem q_486 : (Cond.selects "ContainerKit" ({ cls := "ContainerKit", name := "insert", desc := "(III)V" } : MethodName) ({ cls := "ContainerKit", name := "insert", desc := "(III)V" } : MethodName)) ∈ lw_tbl := qt_tables_1_3 (List.mem_of_getElem? (i := 6) rfl)
theorem q_487 : (Cond.code ({ cls := "ContainerKit", name := "insert", desc := "(III)V" } : MethodName) prog_1_method_8_code (6 : Nat) (Option.none : Option FieldType)) ∈ lw_tbl := qt_tables_1_3 (List.mem_of_getElem? (i := 7) rfl)
theorem q_488 : (Cond.methodLink "ContainerKit" (92 : Nat) ({ cls := "ContainerKit", name := "freshListOrHeap", desc := "(I)LContainerKit$Container;" } : MethodName)) ∈ lw_tbl := qt_tables_1_3 (List.mem_of_getElem? (i := 8) rfl)
theorem q_489 : (Cond.privateMethod ({ cls := "ContainerKit", name := "freshListOrHeap", desc := "(I)LContainerKit$Container;" } : MethodName)) ∈ lw_tbl := qt_tables_1_3 (List.mem_of_getElem? (i := 9) rfl)
theorem q_490 : (Cond.instanceMethod ({ cls := "ContainerKit", name := "freshListOrHeap", desc := "(I)LContainerKit$Container;" } : MethodName)) ∈ lw_tbl := qt_tables_1_3 (List.mem_of_getElem? (i := 10) rfl)
theorem q_491 : (Cond.code ({ cls := "ContainerKit", name := "freshListOrHeap", desc := "(I)LContainerKit$Container;" } : MethodName) prog_1_method_30_code (3 : Nat) (Option.some (FieldType.object "ContainerKit$Container"))) ∈ lw_tbl := qt_tables_1_3 (List.mem_of_getElem? (i := 11) rfl)
theorem q_492 : (Cond.methodLink "ContainerKit" (99 : Nat) ({ cls := "ContainerKit", name := "demandSpace", desc := "(LContainerKit$Store;)V" } : MethodName)) ∈ lw_tbl := qt_tables_1_3 (List.mem_of_getElem? (i := 12) rfl)
theorem q_493 : (Cond.static ({ cls := "ContainerKit", name := "demandSpace", desc := "(LContainerKit$Store;)V" } : MethodName)) ∈ lw_tbl := qt_tables_1_3 (List.mem_of_getElem? (i := 13) rfl)
theorem q_494 : (Cond.code ({ cls := "ContainerKit", name := "demandSpace", desc := "(LContainerKit$Store;)V" } : MethodName) prog_1_method_42_code (1 : Nat) (Option.none : Option FieldType)) ∈ lw_tbl := qt_tables_1_3 (List.mem_of_getElem? (i := 14) rfl)
theorem q_495 : (Cond.methodLink "ContainerKit" (265 : Nat) ({ cls := "ContainerKit$Store", name := "isFull", desc := "()Z" } : MethodName)) ∈ lw_tbl := qt_tables_1_3 (List.mem_of_getElem? (i := 15) rfl)
theorem q_496 : (Cond.instanceMethod ({ cls := "ContainerKit$Store", name := "isFull", desc := "()Z" } : MethodName)) ∈ lw_tbl := qt_tables_1_3 (List.mem_of_getElem? (i := 16) rfl)
theorem q_497 : (Cond.selects "ContainerKit$Store" ({ cls := "ContainerKit$Store", name := "isFull", desc := "()Z" } : MethodName) ({ cls := "ContainerKit$Store", name := "isFull", desc := "()Z" } : MethodName)) ∈ lw_tbl := qt_tables_1_3 (List.mem_of_getElem? (i := 17) rfl)
theorem q_498 : (Cond.code ({ cls := "ContainerKit$Store", name := "isFull", desc := "()Z" } : MethodName) prog_5_method_2_code (1 : Nat) (Option.some FieldType.boolean)) ∈ lw_tbl := qt_tables_1_3 (List.mem_of_getElem? (i := 18) rfl)
theorem q_499 : (Cond.stringRef "ContainerKit" (268 : Nat) "the base is full") ∈ lw_tbl := qt_tables_1_3 (List.mem_of_getElem? (i := 19) rfl)
theorem q_500 : (Cond.methodLink "ContainerKit" (103 : Nat) ({ cls := "ContainerKit$Store", name := "placesBefore", desc := "(IZ)I" } : MethodName)) ∈ lw_tbl := qt_tables_1_3 (List.mem_of_getElem? (i := 20) rfl)
theorem q_501 : (Cond.methodLink "ContainerKit" (109 : Nat) ({ cls := "ContainerKit$Container", name := "bring", desc := "(II)V" } : MethodName)) ∈ lw_tbl := qt_tables_1_3 (List.mem_of_getElem? (i := 21) rfl)
theorem q_502 : (Cond.instanceMethod ({ cls := "ContainerKit$Container", name := "bring", desc := "(II)V" } : MethodName)) ∈ lw_tbl := qt_tables_1_3 (List.mem_of_getElem? (i := 22) rfl)
theorem q_503 : (Cond.sameMethod "ContainerKit$Container" "ContainerKit$Container" "bring" "(II)V") ∈ lw_tbl := qt_tables_1_3 (List.mem_of_getElem? (i := 23) rfl)
theorem q_504 : (Cond.selects "ContainerKit$Part" ({ cls := "ContainerKit$Container", name := "bring", desc := "(II)V" } : MethodName) ({ cls := "ContainerKit$Container", name := "bring", desc := "(II)V" } : MethodName)) ∈ lw_tbl := qt_tables_1_3 (List.mem_of_getElem? (i := 24) rfl)
theorem q_505 : (Cond.selects "ContainerKit$Range" ({ cls := "ContainerKit$Container", name := "bring", desc := "(II)V" } : MethodName) ({ cls := "ContainerKit$Container", name := "bring", desc := "(II)V" } : MethodName)) ∈ lw_tbl := qt_tables_1_3 (List.mem_of_getElem? (i := 25) rfl)
theorem q_506 : (Cond.selects "ContainerKit$Whole" ({ cls := "ContainerKit$Container", name := "bring", desc := "(II)V" } : MethodName) ({ cls := "ContainerKit$Container", name := "bring", desc := "(II)V" } : MethodName)) ∈ lw_tbl := qt_tables_1_3 (List.mem_of_getElem? (i := 26) rfl)
theorem q_507 : (Cond.code ({ cls := "ContainerKit$Container", name := "bring", desc := "(II)V" } : MethodName) prog_2_method_18_code (3 : Nat) (Option.none : Option FieldType)) ∈ lw_tbl := qt_tables_1_3 (List.mem_of_getElem? (i := 27) rfl)
theorem q_508 : (Cond.methodLink "ContainerKit$Container" (71 : Nat) ({ cls := "ContainerKit$Store", name := "bringIn", desc := "(III)V" } : MethodName)) ∈ lw_tbl := qt_tables_1_3 (List.mem_of_getElem? (i := 28) rfl)
theorem q_509 : (Cond.instanceMethod ({ cls := "ContainerKit$Store", name := "bringIn", desc := "(III)V" } : MethodName)) ∈ lw_tbl := qt_tables_1_3 (List.mem_of_getElem? (i := 29) rfl)
theorem q_510 : (Cond.selects "ContainerKit$Store" ({ cls := "ContainerKit$Store", name := "bringIn", desc := "(III)V" } : MethodName) ({ cls := "ContainerKit$Store", name := "bringIn", desc := "(III)V" } : MethodName)) ∈ lw_tbl := qt_tables_1_3 (List.mem_of_getElem? (i := 30) rfl)
theorem q_511 : (Cond.code ({ cls := "ContainerKit$Store", name := "bringIn", desc := "(III)V" } : MethodName) prog_5_method_10_code (5 : Nat) (Option.none : Option FieldType)) ∈ lw_tbl := qt_tables_1_3 (List.mem_of_getElem? (i := 31) rfl)
theorem q_512 : (Cond.methodLink "ContainerKit$Store" (35 : Nat) ({ cls := "ContainerKit$Store", name := "isFull", desc := "()Z" } : MethodName)) ∈ lw_tbl := qt_tables_1_3 (List.mem_of_getElem? (i := 32) rfl)
theorem q_513 : (Cond.methodLink "ContainerKit$Container" (75 : Nat) ({ cls := "ContainerKit$Container", name := "follow", desc := "(I)V" } : MethodName)) ∈ lw_tbl := qt_tables_1_3 (List.mem_of_getElem? (i := 33) rfl)
theorem q_514 : (Cond.instanceMethod ({ cls := "ContainerKit$Container", name := "follow", desc := "(I)V" } : MethodName)) ∈ lw_tbl := qt_tables_1_3 (List.mem_of_getElem? (i := 34) rfl)
theorem q_515 : (Cond.sameMethod "ContainerKit$Container" "ContainerKit$Container" "follow" "(I)V") ∈ lw_tbl := qt_tables_1_3 (List.mem_of_getElem? (i := 35) rfl)
theorem q_516 : (Cond.selects "ContainerKit$Part" ({ cls := "ContainerKit$Container", name := "follow", desc := "(I)V" } : MethodName) ({ cls := "ContainerKit$Part", name := "follow", desc := "(I)V" } : MethodName)) ∈ lw_tbl := qt_tables_1_3 (List.mem_of_getElem? (i := 36) rfl)
theorem q_517 : (Cond.instanceMethod ({ cls := "ContainerKit$Part", name := "follow", desc := "(I)V" } : MethodName)) ∈ lw_tbl := qt_tables_1_3 (List.mem_of_getElem? (i := 37) rfl)
theorem q_518 : (Cond.code ({ cls := "ContainerKit$Part", name := "follow", desc := "(I)V" } : MethodName) prog_3_method_5_code (3 : Nat) (Option.none : Option FieldType)) ∈ lw_tbl := qt_tables_1_3 (List.mem_of_getElem? (i := 38) rfl)
theorem q_519 : (Cond.selects "ContainerKit$Range" ({ cls := "ContainerKit$Container", name := "follow", desc := "(I)V" } : MethodName) ({ cls := "ContainerKit$Container", name := "follow", desc := "(I)V" } : MethodName)) ∈ lw_tbl := qt_tables_1_3 (List.mem_of_getElem? (i := 39) rfl)
theorem q_520 : (Cond.selects "ContainerKit$Whole" ({ cls := "ContainerKit$Container", name := "follow", desc := "(I)V" } : MethodName) ({ cls := "ContainerKit$Container", name := "follow", desc := "(I)V" } : MethodName)) ∈ lw_tbl := qt_tables_1_3 (List.mem_of_getElem? (i := 40) rfl)
theorem q_521 : (Cond.code ({ cls := "ContainerKit$Container", name := "follow", desc := "(I)V" } : MethodName) prog_2_method_6_code (2 : Nat) (Option.none : Option FieldType)) ∈ lw_tbl := qt_tables_1_3 (List.mem_of_getElem? (i := 41) rfl)
theorem q_522 : (Cond.methodLink "ContainerKitLaw" (140 : Nat) ({ cls := "ContainerKitLaw", name := "remove", desc := "(LContainerKit;II[J)I" } : MethodName)) ∈ lw_tbl := qt_tables_1_3 (List.mem_of_getElem? (i := 42) rfl)
theorem q_523 : (Cond.static ({ cls := "ContainerKitLaw", name := "remove", desc := "(LContainerKit;II[J)I" } : MethodName)) ∈ lw_tbl := qt_tables_1_3 (List.mem_of_getElem? (i := 43) rfl)
theorem q_524 : (Cond.codeWith ({ cls := "ContainerKitLaw", name := "remove", desc := "(LContainerKit;II[J)I" } : MethodName) method_10_code (5 : Nat) (Option.some FieldType.int) [((0 : Nat), (10 : Nat), (13 : Nat), (21 : Nat)), ((0 : Nat), (10 : Nat), (17 : Nat), (23 : Nat)), ((0 : Nat), (10 : Nat), (21 : Nat), (37 : Nat)), ((0 : Nat), (10 : Nat), (25 : Nat), (25 : Nat))]) ∈ lw_tbl := qt_tables_1_3 (List.mem_of_getElem? (i := 44) rfl)
theorem q_525 : (Cond.methodLink "ContainerKitLaw" (46 : Nat) ({ cls := "ContainerKit", name := "remove", desc := "(II)I" } : MethodName)) ∈ lw_tbl := qt_tables_1_3 (List.mem_of_getElem? (i := 45) rfl)
theorem q_526 : (Cond.instanceMethod ({ cls := "ContainerKit", name := "remove", desc := "(II)I" } : MethodName)) ∈ lw_tbl := qt_tables_1_3 (List.mem_of_getElem? (i := 46) rfl)
theorem q_527 : (Cond.selects "ContainerKit" ({ cls := "ContainerKit", name := "remove", desc := "(II)I" } : MethodName) ({ cls := "ContainerKit", name := "remove", desc := "(II)I" } : MethodName)) ∈ lw_tbl := qt_tables_1_3 (List.mem_of_getElem? (i := 47) rfl)
theorem q_528 : (Cond.code ({ cls := "ContainerKit", name := "remove", desc := "(II)I" } : MethodName) prog_1_method_9_code (5 : Nat) (Option.some FieldType.int)) ∈ lw_tbl := qt_tables_1_3 (List.mem_of_getElem? (i := 48) rfl)
theorem q_529 : (Cond.methodLink "ContainerKit" (113 : Nat) ({ cls := "ContainerKit$Container", name := "take", desc := "(I)I" } : MethodName)) ∈ lw_tbl := qt_tables_1_3 (List.mem_of_getElem? (i := 49) rfl)
theorem q_530 : (Cond.instanceMethod ({ cls := "ContainerKit$Container", name := "take", desc := "(I)I" } : MethodName)) ∈ lw_tbl := qt_tables_1_3 (List.mem_of_getElem? (i := 50) rfl)
theorem q_531 : (Cond.sameMethod "ContainerKit$Container" "ContainerKit$Container" "take" "(I)I") ∈ lw_tbl := qt_tables_1_3 (List.mem_of_getElem? (i := 51) rfl)
theorem q_532 : (Cond.selects "ContainerKit$Part" ({ cls := "ContainerKit$Container", name := "take", desc := "(I)I" } : MethodName) ({ cls := "ContainerKit$Container", name := "take", desc := "(I)I" } : MethodName)) ∈ lw_tbl := qt_tables_1_3 (List.mem_of_getElem? (i := 52) rfl)
theorem q_533 : (Cond.selects "ContainerKit$Range" ({ cls := "ContainerKit$Container", name := "take", desc := "(I)I" } : MethodName) ({ cls := "ContainerKit$Container", name := "take", desc := "(I)I" } : MethodName)) ∈ lw_tbl := qt_tables_1_3 (List.mem_of_getElem? (i := 53) rfl)
theorem q_534 : (Cond.selects "ContainerKit$Whole" ({ cls := "ContainerKit$Container", name := "take", desc := "(I)I" } : MethodName) ({ cls := "ContainerKit$Container", name := "take", desc := "(I)I" } : MethodName)) ∈ lw_tbl := qt_tables_1_3 (List.mem_of_getElem? (i := 54) rfl)
theorem q_535 : (Cond.code ({ cls := "ContainerKit$Container", name := "take", desc := "(I)I" } : MethodName) prog_2_method_19_code (3 : Nat) (Option.some FieldType.int)) ∈ lw_tbl := qt_tables_1_3 (List.mem_of_getElem? (i := 55) rfl)
theorem q_536 : (Cond.methodLink "ContainerKit$Container" (79 : Nat) ({ cls := "ContainerKit$Store", name := "takeOut", desc := "(I)V" } : MethodName)) ∈ lw_tbl := qt_tables_1_3 (List.mem_of_getElem? (i := 56) rfl)
theorem q_537 : (Cond.instanceMethod ({ cls := "ContainerKit$Store", name := "takeOut", desc := "(I)V" } : MethodName)) ∈ lw_tbl := qt_tables_1_3 (List.mem_of_getElem? (i := 57) rfl)
theorem q_538 : (Cond.selects "ContainerKit$Store" ({ cls := "ContainerKit$Store", name := "takeOut", desc := "(I)V" } : MethodName) ({ cls := "ContainerKit$Store", name := "takeOut", desc := "(I)V" } : MethodName)) ∈ lw_tbl := qt_tables_1_3 (List.mem_of_getElem? (i := 58) rfl)
theorem q_539 : (Cond.code ({ cls := "ContainerKit$Store", name := "takeOut", desc := "(I)V" } : MethodName) prog_5_method_11_code (2 : Nat) (Option.none : Option FieldType)) ∈ lw_tbl := qt_tables_1_3 (List.mem_of_getElem? (i := 59) rfl)
theorem q_540 : (Cond.methodLink "ContainerKit$Store" (39 : Nat) ({ cls := "ContainerKit$Store", name := "closeGap", desc := "(I)V" } : MethodName)) ∈ lw_tbl := qt_tables_1_3 (List.mem_of_getElem? (i := 60) rfl)
theorem q_541 : (Cond.privateMethod ({ cls := "ContainerKit$Store", name := "closeGap", desc := "(I)V" } : MethodName)) ∈ lw_tbl := qt_tables_1_3 (List.mem_of_getElem? (i := 61) rfl)
theorem q_542 : (Cond.instanceMethod ({ cls := "ContainerKit$Store", name := "closeGap", desc := "(I)V" } : MethodName)) ∈ lw_tbl := qt_tables_1_3 (List.mem_of_getElem? (i := 62) rfl)
theorem q_543 : (Cond.code ({ cls := "ContainerKit$Store", name := "closeGap", desc := "(I)V" } : MethodName) prog_5_method_12_code (3 : Nat) (Option.none : Option FieldType)) ∈ lw_tbl := qt_tables_1_3 (List.mem_of_getElem? (i := 63) rfl)
theorem q_544 : (Cond.methodLink "ContainerKitLaw" (143 : Nat) ({ cls := "ContainerKitLaw", name := "sort", desc := "(LContainerKit;II)I" } : MethodName)) ∈ lw_tbl := qt_tables_1_3 (List.mem_of_getElem? (i := 64) rfl)
theorem q_545 : (Cond.static ({ cls := "ContainerKitLaw", name := "sort", desc := "(LContainerKit;II)I" } : MethodName)) ∈ lw_tbl := qt_tables_1_3 (List.mem_of_getElem? (i := 65) rfl)
theorem q_546 : (Cond.codeWith ({ cls := "ContainerKitLaw", name := "sort", desc := "(LContainerKit;II)I" } : MethodName) method_11_code (4 : Nat) (Option.some FieldType.int) [((0 : Nat), (6 : Nat), (9 : Nat), (21 : Nat)), ((0 : Nat), (6 : Nat), (12 : Nat), (23 : Nat)), ((0 : Nat), (6 : Nat), (15 : Nat), (13 : Nat)), ((0 : Nat), (6 : Nat), (18 : Nat), (25 : Nat))]) ∈ lw_tbl := qt_tables_1_3 (List.mem_of_getElem? (i := 66) rfl)
theorem q_547 : (Cond.methodLink "ContainerKitLaw" (49 : Nat) ({ cls := "ContainerKit", name := "sort", desc := "(II)V" } : MethodName)) ∈ lw_tbl := qt_tables_1_3 (List.mem_of_getElem? (i := 67) rfl)
theorem q_548 : (Cond.instanceMethod ({ cls := "ContainerKit", name := "sort", desc := "(II)V" } : MethodName)) ∈ lw_tbl := qt_tables_1_3 (List.mem_of_getElem? (i := 68) rfl)
theorem q_549 : (Cond.selects "ContainerKit" ({ cls := "ContainerKit", name := "sort", desc := "(II)V" } : MethodName) ({ cls := "ContainerKit", name := "sort", desc := "(II)V" } : MethodName)) ∈ lw_tbl := qt_tables_1_3 (List.mem_of_getElem? (i := 69) rfl)
theorem q_550 : (Cond.code ({ cls := "ContainerKit", name := "sort", desc := "(II)V" } : MethodName) prog_1_method_10_code (4 : Nat) (Option.none : Option FieldType)) ∈ lw_tbl := qt_tables_1_3 (List.mem_of_getElem? (i := 70) rfl)
theorem q_551 : (Cond.methodLink "ContainerKit" (116 : Nat) ({ cls := "ContainerKit$Container", name := "arrange", desc := "(I)V" } : MethodName)) ∈ lw_tbl := qt_tables_1_3 (List.mem_of_getElem? (i := 71) rfl)
theorem q_552 : (Cond.instanceMethod ({ cls := "ContainerKit$Container", name := "arrange", desc := "(I)V" } : MethodName)) ∈ lw_tbl := qt_tables_1_3 (List.mem_of_getElem? (i := 72) rfl)
theorem q_553 : (Cond.sameMethod "ContainerKit$Container" "ContainerKit$Container" "arrange" "(I)V") ∈ lw_tbl := qt_tables_1_3 (List.mem_of_getElem? (i := 73) rfl)
theorem q_554 : (Cond.selects "ContainerKit$Part" ({ cls := "ContainerKit$Container", name := "arrange", desc := "(I)V" } : MethodName) ({ cls := "ContainerKit$Container", name := "arrange", desc := "(I)V" } : MethodName)) ∈ lw_tbl := qt_tables_1_3 (List.mem_of_getElem? (i := 74) rfl)
theorem q_555 : (Cond.selects "ContainerKit$Range" ({ cls := "ContainerKit$Container", name := "arrange", desc := "(I)V" } : MethodName) ({ cls := "ContainerKit$Container", name := "arrange", desc := "(I)V" } : MethodName)) ∈ lw_tbl := qt_tables_1_3 (List.mem_of_getElem? (i := 75) rfl)
theorem q_556 : (Cond.selects "ContainerKit$Whole" ({ cls := "ContainerKit$Container", name := "arrange", desc := "(I)V" } : MethodName) ({ cls := "ContainerKit$Container", name := "arrange", desc := "(I)V" } : MethodName)) ∈ lw_tbl := qt_tables_1_3 (List.mem_of_getElem? (i := 76) rfl)
theorem q_557 : (Cond.code ({ cls := "ContainerKit$Container", name := "arrange", desc := "(I)V" } : MethodName) prog_2_method_20_code (2 : Nat) (Option.none : Option FieldType)) ∈ lw_tbl := qt_tables_1_3 (List.mem_of_getElem? (i := 77) rfl)
theorem q_558 : (Cond.methodLink "ContainerKit$Container" (82 : Nat) ({ cls := "ContainerKit$Store", name := "arrange", desc := "(III)V" } : MethodName)) ∈ lw_tbl := qt_tables_1_3 (List.mem_of_getElem? (i := 78) rfl)
theorem q_559 : (Cond.instanceMethod ({ cls := "ContainerKit$Store", name := "arrange", desc := "(III)V" } : MethodName)) ∈ lw_tbl := qt_tables_1_3 (List.mem_of_getElem? (i := 79) rfl)
theorem q_560 : (Cond.selects "ContainerKit$Store" ({ cls := "ContainerKit$Store", name := "arrange", desc := "(III)V" } : MethodName) ({ cls := "ContainerKit$Store", name := "arrange", desc := "(III)V" } : MethodName)) ∈ lw_tbl := qt_tables_1_3 (List.mem_of_getElem? (i := 80) rfl)
theorem q_561 : (Cond.code ({ cls := "ContainerKit$Store", name := "arrange", desc := "(III)V" } : MethodName) prog_5_method_18_code (7 : Nat) (Option.none : Option FieldType)) ∈ lw_tbl := qt_tables_1_3 (List.mem_of_getElem? (i := 81) rfl)
theorem q_562 : (Cond.methodLink "ContainerKit$Store" (71 : Nat) ({ cls := "ContainerKit$Store", name := "numberAt", desc := "(I)I" } : MethodName)) ∈ lw_tbl := qt_tables_1_3 (List.mem_of_getElem? (i := 82) rfl)
theorem q_563 : (Cond.methodLink "ContainerKit$Store" (74 : Nat) ({ cls := "ContainerKit$Store", name := "comesBefore", desc := "(III)Z" } : MethodName)) ∈ lw_tbl := qt_tables_1_3 (List.mem_of_getElem? (i := 83) rfl)
theorem q_564 : (Cond.static ({ cls := "ContainerKit$Store", name := "comesBefore", desc := "(III)Z" } : MethodName)) ∈ lw_tbl := qt_tables_1_3 (List.mem_of_getElem? (i := 84) rfl)
theorem q_565 : (Cond.code ({ cls := "ContainerKit$Store", name := "comesBefore", desc := "(III)Z" } : MethodName) prog_5_method_19_code (3 : Nat) (Option.some FieldType.boolean)) ∈ lw_tbl := qt_tables_1_3 (List.mem_of_getElem? (i := 85) rfl)
theorem q_566 : (Cond.methodLink "ContainerKit$Store" (81 : Nat) ({ cls := "java/lang/Math", name := "floorMod", desc := "(II)I" } : MethodName)) ∈ lw_tbl := qt_tables_1_3 (List.mem_of_getElem? (i := 86) rfl)
theorem q_567 : (Cond.static ({ cls := "java/lang/Math", name := "floorMod", desc := "(II)I" } : MethodName)) ∈ lw_tbl := qt_tables_1_3 (List.mem_of_getElem? (i := 87) rfl)
theorem q_568 : (Cond.code ({ cls := "java/lang/Math", name := "floorMod", desc := "(II)I" } : MethodName) prog_14_method_50_code (3 : Nat) (Option.some FieldType.int)) ∈ lw_tbl := qt_tables_1_3 (List.mem_of_getElem? (i := 88) rfl)
theorem q_569 : (Cond.methodLink "ContainerKit$Store" (78 : Nat) ({ cls := "ContainerKit$Store", name := "setNumber", desc := "(II)V" } : MethodName)) ∈ lw_tbl := qt_tables_1_3 (List.mem_of_getElem? (i := 89) rfl)
theorem q_570 : (Cond.methodLink "ContainerKitLaw" (147 : Nat) ({ cls := "ContainerKitLaw", name := "put", desc := "(LContainerKit;III[J)I" } : MethodName)) ∈ lw_tbl := qt_tables_1_3 (List.mem_of_getElem? (i := 90) rfl)
theorem q_571 : (Cond.static ({ cls := "ContainerKitLaw", name := "put", desc := "(LContainerKit;III[J)I" } : MethodName)) ∈ lw_tbl := qt_tables_1_3 (List.mem_of_getElem? (i := 91) rfl)
theorem q_572 : (Cond.codeWith ({ cls := "ContainerKitLaw", name := "put", desc := "(LContainerKit;III[J)I" } : MethodName) method_12_code (6 : Nat) (Option.some FieldType.int) [((0 : Nat), (19 : Nat), (22 : Nat), (21 : Nat)), ((0 : Nat), (19 : Nat), (26 : Nat), (23 : Nat)), ((0 : Nat), (19 : Nat), (30 : Nat), (13 : Nat)), ((0 : Nat), (19 : Nat), (34 : Nat), (15 : Nat))]) ∈ lw_tbl := qt_tables_1_3 (List.mem_of_getElem? (i := 92) rfl)
theorem q_573 : (Cond.methodLink "ContainerKitLaw" (53 : Nat) ({ cls := "ContainerKit", name := "put", desc := "(III)Z" } : MethodName)) ∈ lw_tbl := qt_tables_1_3 (List.mem_of_getElem? (i := 93) rfl)
theorem q_574 : (Cond.instanceMethod ({ cls := "ContainerKit", name := "put", desc := "(III)Z" } : MethodName)) ∈ lw_tbl := qt_tables_1_3 (List.mem_of_getElem? (i := 94) rfl)
theorem q_575 : (Cond.selects "ContainerKit" ({ cls := "ContainerKit", name := "put", desc := "(III)Z" } : MethodName) ({ cls := "ContainerKit", name := "put", desc := "(III)Z" } : MethodName)) ∈ lw_tbl := qt_tables_1_3 (List.mem_of_getElem? (i := 95) rfl)
theorem q_576 : (Cond.code ({ cls := "ContainerKit", name := "put", desc := "(III)Z" } : MethodName) prog_1_method_11_code (6 : Nat) (Option.some FieldType.boolean)) ∈ lw_tbl := qt_tables_1_3 (List.mem_of_getElem? (i := 96) rfl)
theorem q_577 : (Cond.methodLink "ContainerKit" (119 : Nat) ({ cls := "ContainerKit", name := "mapAt", desc := "(I)LContainerKit$Container;" } : MethodName)) ∈ lw_tbl := qt_tables_1_3 (List.mem_of_getElem? (i := 97) rfl)
theorem q_578 : (Cond.privateMethod ({ cls := "ContainerKit", name := "mapAt", desc := "(I)LContainerKit$Container;" } : MethodName)) ∈ lw_tbl := qt_tables_1_3 (List.mem_of_getElem? (i := 98) rfl)
theorem q_579 : (Cond.instanceMethod ({ cls := "ContainerKit", name := "mapAt", desc := "(I)LContainerKit$Container;" } : MethodName)) ∈ lw_tbl := qt_tables_1_3 (List.mem_of_getElem? (i := 99) rfl)
theorem q_580 : (Cond.code ({ cls := "ContainerKit", name := "mapAt", desc := "(I)LContainerKit$Container;" } : MethodName) prog_1_method_28_code (3 : Nat) (Option.some (FieldType.object "ContainerKit$Container"))) ∈ lw_tbl := qt_tables_1_3 (List.mem_of_getElem? (i := 100) rfl)
theorem q_581 : (Cond.methodLink "ContainerKit" (155 : Nat) ({ cls := "ContainerKit$Container", name := "isMap", desc := "()Z" } : MethodName)) ∈ lw_tbl := qt_tables_1_3 (List.mem_of_getElem? (i := 101) rfl)
theorem q_582 : (Cond.instanceMethod ({ cls := "ContainerKit$Container", name := "isMap", desc := "()Z" } : MethodName)) ∈ lw_tbl := qt_tables_1_3 (List.mem_of_getElem? (i := 102) rfl)
theorem q_583 : (Cond.sameMethod "ContainerKit$Container" "ContainerKit$Container" "isMap" "()Z") ∈ lw_tbl := qt_tables_1_3 (List.mem_of_getElem? (i := 103) rfl)
theorem q_584 : (Cond.selects "ContainerKit$Part" ({ cls := "ContainerKit$Container", name := "isMap", desc := "()Z" } : MethodName) ({ cls := "ContainerKit$Container", name := "isMap", desc := "()Z" } : MethodName)) ∈ lw_tbl := qt_tables_1_3 (List.mem_of_getElem? (i := 104) rfl)
theorem q_585 : (Cond.selects "ContainerKit$Range" ({ cls := "ContainerKit$Container", name := "isMap", desc := "()Z" } : MethodName) ({ cls := "ContainerKit$Container", name := "isMap", desc := "()Z" } : MethodName)) ∈ lw_tbl := qt_tables_1_3 (List.mem_of_getElem? (i := 105) rfl)
theorem q_586 : (Cond.selects "ContainerKit$Whole" ({ cls := "ContainerKit$Container", name := "isMap", desc := "()Z" } : MethodName) ({ cls := "ContainerKit$Container", name := "isMap", desc := "()Z" } : MethodName)) ∈ lw_tbl := qt_tables_1_3 (List.mem_of_getElem? (i := 106) rfl)
theorem q_587 : (Cond.code ({ cls := "ContainerKit$Container", name := "isMap", desc := "()Z" } : MethodName) prog_2_method_8_code (1 : Nat) (Option.some FieldType.boolean)) ∈ lw_tbl := qt_tables_1_3 (List.mem_of_getElem? (i := 107) rfl)
theorem q_588 : (Cond.methodLink "ContainerKit$Container" (19 : Nat) ({ cls := "ContainerKit$Container", name := "isHashed", desc := "()Z" } : MethodName)) ∈ lw_tbl := qt_tables_1_3 (List.mem_of_getElem? (i := 108) rfl)
theorem q_589 : (Cond.instanceMethod ({ cls := "ContainerKit$Container", name := "isHashed", desc := "()Z" } : MethodName)) ∈ lw_tbl := qt_tables_1_3 (List.mem_of_getElem? (i := 109) rfl)
theorem q_590 : (Cond.sameMethod "ContainerKit$Container" "ContainerKit$Container" "isHashed" "()Z") ∈ lw_tbl := qt_tables_1_3 (List.mem_of_getElem? (i := 110) rfl)
theorem q_591 : (Cond.selects "ContainerKit$Part" ({ cls := "ContainerKit$Container", name := "isHashed", desc := "()Z" } : MethodName) ({ cls := "ContainerKit$Container", name := "isHashed", desc := "()Z" } : MethodName)) ∈ lw_tbl := qt_tables_1_3 (List.mem_of_getElem? (i := 111) rfl)
theorem q_592 : (Cond.selects "ContainerKit$Range" ({ cls := "ContainerKit$Container", name := "isHashed", desc := "()Z" } : MethodName) ({ cls := "ContainerKit$Container", name := "isHashed", desc := "()Z" } : MethodName)) ∈ lw_tbl := qt_tables_1_3 (List.mem_of_getElem? (i := 112) rfl)
theorem q_593 : (Cond.selects "ContainerKit$Whole" ({ cls := "ContainerKit$Container", name := "isHashed", desc := "()Z" } : MethodName) ({ cls := "ContainerKit$Container", name := "isHashed", desc := "()Z" } : MethodName)) ∈ lw_tbl := qt_tables_1_3 (List.mem_of_getElem? (i := 113) rfl)
theorem q_594 : (Cond.code ({ cls := "ContainerKit$Container", name := "isHashed", desc := "()Z" } : MethodName) prog_2_method_9_code (1 : Nat) (Option.some FieldType.boolean)) ∈ lw_tbl := qt_tables_1_3 (List.mem_of_getElem? (i := 114) rfl)
theorem q_595 : (Cond.methodLink "ContainerKit$Container" (23 : Nat) ({ cls := "ContainerKit$Container", name := "isSorted", desc := "()Z" } : MethodName)) ∈ lw_tbl := qt_tables_1_3 (List.mem_of_getElem? (i := 115) rfl)
theorem q_596 : (Cond.methodLink "ContainerKit" (122 : Nat) ({ cls := "ContainerKit", name := "demandKeyFits", desc := "(LContainerKit$Container;I)V" } : MethodName)) ∈ lw_tbl := qt_tables_1_3 (List.mem_of_getElem? (i := 116) rfl)
theorem q_597 : (Cond.static ({ cls := "ContainerKit", name := "demandKeyFits", desc := "(LContainerKit$Container;I)V" } : MethodName)) ∈ lw_tbl := qt_tables_1_3 (List.mem_of_getElem? (i := 117) rfl)
theorem q_598 : (Cond.code ({ cls := "ContainerKit", name := "demandKeyFits", desc := "(LContainerKit$Container;I)V" } : MethodName) prog_1_method_43_code (2 : Nat) (Option.none : Option FieldType)) ∈ lw_tbl := qt_tables_1_3 (List.mem_of_getElem? (i := 118) rfl)
theorem q_599 : (Cond.methodLink "ContainerKit" (270 : Nat) ({ cls := "ContainerKit$Container", name := "covers", desc := "(I)Z" } : MethodName)) ∈ lw_tbl := qt_tables_1_3 (List.mem_of_getElem? (i := 119) rfl)
theorem q_600 : (Cond.instanceMethod ({ cls := "ContainerKit$Container", name := "covers", desc := "(I)Z" } : MethodName)) ∈ lw_tbl := qt_tables_1_3 (List.mem_of_getElem? (i := 120) rfl)
theorem q_601 : (Cond.sameMethod "ContainerKit$Container" "ContainerKit$Container" "covers" "(I)Z") ∈ lw_tbl := qt_tables_1_3 (List.mem_of_getElem? (i := 121) rfl)
theorem q_602 : (Cond.selects "ContainerKit$Part" ({ cls := "ContainerKit$Container", name := "covers", desc := "(I)Z" } : MethodName) ({ cls := "ContainerKit$Container", name := "covers", desc := "(I)Z" } : MethodName)) ∈ lw_tbl := qt_tables_1_3 (List.mem_of_getElem? (i := 122) rfl)
theorem q_603 : (Cond.selects "ContainerKit$Range" ({ cls := "ContainerKit$Container", name := "covers", desc := "(I)Z" } : MethodName) ({ cls := "ContainerKit$Range", name := "covers", desc := "(I)Z" } : MethodName)) ∈ lw_tbl := qt_tables_1_3 (List.mem_of_getElem? (i := 123) rfl)
theorem q_604 : (Cond.instanceMethod ({ cls := "ContainerKit$Range", name := "covers", desc := "(I)Z" } : MethodName)) ∈ lw_tbl := qt_tables_1_3 (List.mem_of_getElem? (i := 124) rfl)
theorem q_605 : (Cond.code ({ cls := "ContainerKit$Range", name := "covers", desc := "(I)Z" } : MethodName) prog_4_method_4_code (2 : Nat) (Option.some FieldType.boolean)) ∈ lw_tbl := qt_tables_1_3 (List.mem_of_getElem? (i := 125) rfl)
theorem q_606 : (Cond.selects "ContainerKit$Whole" ({ cls := "ContainerKit$Container", name := "covers", desc := "(I)Z" } : MethodName) ({ cls := "ContainerKit$Container", name := "covers", desc := "(I)Z" } : MethodName)) ∈ lw_tbl := qt_tables_1_3 (List.mem_of_getElem? (i := 126) rfl)
theorem q_607 : (Cond.code ({ cls := "ContainerKit$Container", name := "covers", desc := "(I)Z" } : MethodName) prog_2_method_5_code (2 : Nat) (Option.some FieldType.boolean)) ∈ lw_tbl := qt_tables_1_3 (List.mem_of_getElem? (i := 127) rfl)
theorem q_608 : (Cond.methodLink "ContainerKit" (126 : Nat) ({ cls := "ContainerKit$Container", name := "placeOf", desc := "(I)I" } : MethodName)) ∈ lw_tbl := qt_tables_1_3 (List.mem_of_getElem? (i := 128) rfl)
theorem q_609 : (Cond.instanceMethod ({ cls := "ContainerKit$Container", name := "placeOf", desc := "(I)I" } : MethodName)) ∈ lw_tbl := qt_tables_1_3 (List.mem_of_getElem? (i := 129) rfl)
theorem q_610 : (Cond.sameMethod "ContainerKit$Container" "ContainerKit$Container" "placeOf" "(I)I") ∈ lw_tbl := qt_tables_1_3 (List.mem_of_getElem? (i := 130) rfl)
theorem q_611 : (Cond.selects "ContainerKit$Part" ({ cls := "ContainerKit$Container", name := "placeOf", desc := "(I)I" } : MethodName) ({ cls := "ContainerKit$Container", name := "placeOf", desc := "(I)I" } : MethodName)) ∈ lw_tbl := qt_tables_1_3 (List.mem_of_getElem? (i := 131) rfl)
theorem q_612 : (Cond.selects "ContainerKit$Range" ({ cls := "ContainerKit$Container", name := "placeOf", desc := "(I)I" } : MethodName) ({ cls := "ContainerKit$Container", name := "placeOf", desc := "(I)I" } : MethodName)) ∈ lw_tbl := qt_tables_1_3 (List.mem_of_getElem? (i := 132) rfl)
theorem q_613 : (Cond.selects "ContainerKit$Whole" ({ cls := "ContainerKit$Container", name := "placeOf", desc := "(I)I" } : MethodName) ({ cls := "ContainerKit$Container", name := "placeOf", desc := "(I)I" } : MethodName)) ∈ lw_tbl := qt_tables_1_3 (List.mem_of_getElem? (i := 133) rfl)
theorem q_614 : (Cond.code ({ cls := "ContainerKit$Container", name := "placeOf", desc := "(I)I" } : MethodName) prog_2_method_14_code (2 : Nat) (Option.some FieldType.int)) ∈ lw_tbl := qt_tables_1_3 (List.mem_of_getElem? (i := 134) rfl)
theorem q_615 : (Cond.methodLink "ContainerKit$Container" (42 : Nat) ({ cls := "ContainerKit$Container", name := "covers", desc := "(I)Z" } : MethodName)) ∈ lw_tbl := qt_tables_1_3 (List.mem_of_getElem? (i := 135) rfl)
theorem q_616 : (Cond.methodLink "ContainerKit$Container" (46 : Nat) ({ cls := "ContainerKit$Store", name := "placeOf", desc := "(I)I" } : MethodName)) ∈ lw_tbl := qt_tables_1_3 (List.mem_of_getElem? (i := 136) rfl)
theorem q_617 : (Cond.instanceMethod ({ cls := "ContainerKit$Store", name := "placeOf", desc := "(I)I" } : MethodName)) ∈ lw_tbl := qt_tables_1_3 (List.mem_of_getElem? (i := 137) rfl)
theorem q_618 : (Cond.selects "ContainerKit$Store" ({ cls := "ContainerKit$Store", name := "placeOf", desc := "(I)I" } : MethodName) ({ cls := "ContainerKit$Store", name := "placeOf", desc := "(I)I" } : MethodName)) ∈ lw_tbl := qt_tables_1_3 (List.mem_of_getElem? (i := 138) rfl)
theorem q_619 : (Cond.code ({ cls := "ContainerKit$Store", name := "placeOf", desc := "(I)I" } : MethodName) prog_5_method_8_code (3 : Nat) (Option.some FieldType.int)) ∈ lw_tbl := qt_tables_1_3 (List.mem_of_getElem? (i := 139) rfl)
theorem q_620 : (Cond.methodLink "ContainerKit" (129 : Nat) ({ cls := "ContainerKit$Store", name := "putKey", desc := "(II)V" } : MethodName)) ∈ lw_tbl := qt_tables_1_3 (List.mem_of_getElem? (i := 140) rfl)
theorem q_621 : (Cond.instanceMethod ({ cls := "ContainerKit$Store", name := "putKey", desc := "(II)V" } : MethodName)) ∈ lw_tbl := qt_tables_1_3 (List.mem_of_getElem? (i := 141) rfl)
theorem q_622 : (Cond.selects "ContainerKit$Store" ({ cls := "ContainerKit$Store", name := "putKey", desc := "(II)V" } : MethodName) ({ cls := "ContainerKit$Store", name := "putKey", desc := "(II)V" } : MethodName)) ∈ lw_tbl := qt_tables_1_3 (List.mem_of_getElem? (i := 142) rfl)
theorem q_623 : (Cond.code ({ cls := "ContainerKit$Store", name := "putKey", desc := "(II)V" } : MethodName) prog_5_method_13_code (4 : Nat) (Option.none : Option FieldType)) ∈ lw_tbl := qt_tables_1_3 (List.mem_of_getElem? (i := 143) rfl)
theorem q_624 : (Cond.methodLink "ContainerKit$Store" (43 : Nat) ({ cls := "ContainerKit$Store", name := "placeOf", desc := "(I)I" } : MethodName)) ∈ lw_tbl := qt_tables_1_3 (List.mem_of_getElem? (i := 144) rfl)
theorem q_625 : (Cond.methodLink "ContainerKit$Store" (47 : Nat) ({ cls := "ContainerKit$Store", name := "bringKeyIn", desc := "(II)V" } : MethodName)) ∈ lw_tbl := qt_tables_1_3 (List.mem_of_getElem? (i := 145) rfl)
theorem q_626 : (Cond.privateMethod ({ cls := "ContainerKit$Store", name := "bringKeyIn", desc := "(II)V" } : MethodName)) ∈ lw_tbl := qt_tables_1_3 (List.mem_of_getElem? (i := 146) rfl)
theorem q_627 : (Cond.instanceMethod ({ cls := "ContainerKit$Store", name := "bringKeyIn", desc := "(II)V" } : MethodName)) ∈ lw_tbl := qt_tables_1_3 (List.mem_of_getElem? (i := 147) rfl)
theorem q_628 : (Cond.code ({ cls := "ContainerKit$Store", name := "bringKeyIn", desc := "(II)V" } : MethodName) prog_5_method_14_code (3 : Nat) (Option.none : Option FieldType)) ∈ lw_tbl := qt_tables_1_3 (List.mem_of_getElem? (i := 148) rfl)
theorem q_629 : (Cond.methodLink "ContainerKit$Store" (57 : Nat) ({ cls := "ContainerKit$Store", name := "placesBefore", desc := "(IZ)I" } : MethodName)) ∈ lw_tbl := qt_tables_1_3 (List.mem_of_getElem? (i := 149) rfl)
theorem q_630 : (Cond.methodLink "ContainerKit$Store" (61 : Nat) ({ cls := "ContainerKit$Store", name := "bringIn", desc := "(III)V" } : MethodName)) ∈ lw_tbl := qt_tables_1_3 (List.mem_of_getElem? (i := 150) rfl)
theorem q_631 : (Cond.methodLink "ContainerKit$Store" (65 : Nat) ({ cls := "ContainerKit$Store", name := "takeOut", desc := "(I)V" } : MethodName)) ∈ lw_tbl := qt_tables_1_3 (List.mem_of_getElem? (i := 151) rfl)
theorem q_632 : (Cond.methodLink "ContainerKit$Store" (51 : Nat) ({ cls := "ContainerKit$Store", name := "setValue", desc := "(II)V" } : MethodName)) ∈ lw_tbl := qt_tables_1_3 (List.mem_of_getElem? (i := 152) rfl)
theorem q_633 : (Cond.instanceMethod ({ cls := "ContainerKit$Store", name := "setValue", desc := "(II)V" } : MethodName)) ∈ lw_tbl := qt_tables_1_3 (List.mem_of_getElem? (i := 153) rfl)
theorem q_634 : (Cond.selects "ContainerKit$Store" ({ cls := "ContainerKit$Store", name := "setValue", desc := "(II)V" } : MethodName) ({ cls := "ContainerKit$Store", name := "setValue", desc := "(II)V" } : MethodName)) ∈ lw_tbl := qt_tables_1_3 (List.mem_of_getElem? (i := 154) rfl)
theorem q_635 : (Cond.code ({ cls := "ContainerKit$Store", name := "setValue", desc := "(II)V" } : MethodName) prog_5_method_7_code (3 : Nat) (Option.none : Option FieldType)) ∈ lw_tbl := qt_tables_1_3 (List.mem_of_getElem? (i := 155) rfl)
theorem q_636 : (Cond.methodLink "ContainerKit$Store" (54 : Nat) ({ cls := "ContainerKit$Store", name := "noteUse", desc := "(I)V" } : MethodName)) ∈ lw_tbl := qt_tables_1_3 (List.mem_of_getElem? (i := 156) rfl)
theorem q_637 : (Cond.instanceMethod ({ cls := "ContainerKit$Store", name := "noteUse", desc := "(I)V" } : MethodName)) ∈ lw_tbl := qt_tables_1_3 (List.mem_of_getElem? (i := 157) rfl)
theorem q_638 : (Cond.selects "ContainerKit$Store" ({ cls := "ContainerKit$Store", name := "noteUse", desc := "(I)V" } : MethodName) ({ cls := "ContainerKit$Store", name := "noteUse", desc := "(I)V" } : MethodName)) ∈ lw_tbl := qt_tables_1_3 (List.mem_of_getElem? (i := 158) rfl)
theorem q_639 : (Cond.code ({ cls := "ContainerKit$Store", name := "noteUse", desc := "(I)V" } : MethodName) prog_5_method_15_code (4 : Nat) (Option.none : Option FieldType)) ∈ lw_tbl := qt_tables_1_3 (List.mem_of_getElem? (i := 159) rfl)
theorem q_640 : (Cond.methodLink "ContainerKitLaw" (150 : Nat) ({ cls := "ContainerKitLaw", name := "merge", desc := "(LContainerKit;III[J)I" } : MethodName)) ∈ lw_tbl := qt_tables_1_3 (List.mem_of_getElem? (i := 160) rfl)
theorem q_641 : (Cond.static ({ cls := "ContainerKitLaw", name := "merge", desc := "(LContainerKit;III[J)I" } : MethodName)) ∈ lw_tbl := qt_tables_1_3 (List.mem_of_getElem? (i := 161) rfl)
theorem q_642 : (Cond.codeWith ({ cls := "ContainerKitLaw", name := "merge", desc := "(LContainerKit;III[J)I" } : MethodName) method_13_code (6 : Nat) (Option.some FieldType.int) [((0 : Nat), (12 : Nat), (15 : Nat), (21 : Nat)), ((0 : Nat), (12 : Nat), (19 : Nat), (23 : Nat)), ((0 : Nat), (12 : Nat), (23 : Nat), (13 : Nat)), ((0 : Nat), (12 : Nat), (27 : Nat), (15 : Nat))]) ∈ lw_tbl := qt_tables_1_3 (List.mem_of_getElem? (i := 162) rfl)
theorem q_643 : (Cond.methodLink "ContainerKitLaw" (57 : Nat) ({ cls := "ContainerKit", name := "merge", desc := "(III)I" } : MethodName)) ∈ lw_tbl := qt_tables_1_3 (List.mem_of_getElem? (i := 163) rfl)
theorem q_644 : (Cond.instanceMethod ({ cls := "ContainerKit", name := "merge", desc := "(III)I" } : MethodName)) ∈ lw_tbl := qt_tables_1_3 (List.mem_of_getElem? (i := 164) rfl)
theorem q_645 : (Cond.selects "ContainerKit" ({ cls := "ContainerKit", name := "merge", desc := "(III)I" } : MethodName) ({ cls := "ContainerKit", name := "merge", desc := "(III)I" } : MethodName)) ∈ lw_tbl := qt_tables_1_3 (List.mem_of_getElem? (i := 165) rfl)
theorem q_646 : (Cond.code ({ cls := "ContainerKit", name := "merge", desc := "(III)I" } : MethodName) prog_1_method_12_code (7 : Nat) (Option.some FieldType.int)) ∈ lw_tbl := qt_tables_1_3 (List.mem_of_getElem? (i := 166) rfl)
theorem q_647 : (Cond.methodLink "ContainerKit" (132 : Nat) ({ cls := "ContainerKit$Container", name := "valueAt", desc := "(I)I" } : MethodName)) ∈ lw_tbl := qt_tables_1_3 (List.mem_of_getElem? (i := 167) rfl)
theorem q_648 : (Cond.instanceMethod ({ cls := "ContainerKit$Container", name := "valueAt", desc := "(I)I" } : MethodName)) ∈ lw_tbl := qt_tables_1_3 (List.mem_of_getElem? (i := 168) rfl)
theorem q_649 : (Cond.sameMethod "ContainerKit$Container" "ContainerKit$Container" "valueAt" "(I)I") ∈ lw_tbl := qt_tables_1_3 (List.mem_of_getElem? (i := 169) rfl)
theorem q_650 : (Cond.selects "ContainerKit$Part" ({ cls := "ContainerKit$Container", name := "valueAt", desc := "(I)I" } : MethodName) ({ cls := "ContainerKit$Container", name := "valueAt", desc := "(I)I" } : MethodName)) ∈ lw_tbl := qt_tables_1_3 (List.mem_of_getElem? (i := 170) rfl)
theorem q_651 : (Cond.selects "ContainerKit$Range" ({ cls := "ContainerKit$Container", name := "valueAt", desc := "(I)I" } : MethodName) ({ cls := "ContainerKit$Container", name := "valueAt", desc := "(I)I" } : MethodName)) ∈ lw_tbl := qt_tables_1_3 (List.mem_of_getElem? (i := 171) rfl)
theorem q_652 : (Cond.selects "ContainerKit$Whole" ({ cls := "ContainerKit$Container", name := "valueAt", desc := "(I)I" } : MethodName) ({ cls := "ContainerKit$Container", name := "valueAt", desc := "(I)I" } : MethodName)) ∈ lw_tbl := qt_tables_1_3 (List.mem_of_getElem? (i := 172) rfl)
theorem q_653 : (Cond.code ({ cls := "ContainerKit$Container", name := "valueAt", desc := "(I)I" } : MethodName) prog_2_method_13_code (2 : Nat) (Option.some FieldType.int)) ∈ lw_tbl := qt_tables_1_3 (List.mem_of_getElem? (i := 173) rfl)
theorem q_654 : (Cond.methodLink "ContainerKit$Container" (39 : Nat) ({ cls := "ContainerKit$Store", name := "valueAt", desc := "(I)I" } : MethodName)) ∈ lw_tbl := qt_tables_1_3 (List.mem_of_getElem? (i := 174) rfl)
theorem q_655 : (Cond.instanceMethod ({ cls := "ContainerKit$Store", name := "valueAt", desc := "(I)I" } : MethodName)) ∈ lw_tbl := qt_tables_1_3 (List.mem_of_getElem? (i := 175) rfl)
theorem q_656 : (Cond.selects "ContainerKit$Store" ({ cls := "ContainerKit$Store", name := "valueAt", desc := "(I)I" } : MethodName) ({ cls := "ContainerKit$Store", name := "valueAt", desc := "(I)I" } : MethodName)) ∈ lw_tbl := qt_tables_1_3 (List.mem_of_getElem? (i := 176) rfl)
theorem q_657 : (Cond.code ({ cls := "ContainerKit$Store", name := "valueAt", desc := "(I)I" } : MethodName) prog_5_method_5_code (2 : Nat) (Option.some FieldType.int)) ∈ lw_tbl := qt_tables_1_3 (List.mem_of_getElem? (i := 177) rfl)
theorem q_658 : (Cond.methodLink "ContainerKitLaw" (153 : Nat) ({ cls := "ContainerKitLaw", name := "has", desc := "(LContainerKit;II[J)I" } : MethodName)) ∈ lw_tbl := qt_tables_1_3 (List.mem_of_getElem? (i := 178) rfl)
theorem q_659 : (Cond.static ({ cls := "ContainerKitLaw", name := "has", desc := "(LContainerKit;II[J)I" } : MethodName)) ∈ lw_tbl := qt_tables_1_3 (List.mem_of_getElem? (i := 179) rfl)
theorem q_660 : (Cond.codeWith ({ cls := "ContainerKitLaw", name := "has", desc := "(LContainerKit;II[J)I" } : MethodName) method_14_code (5 : Nat) (Option.some FieldType.int) [((0 : Nat), (17 : Nat), (20 : Nat), (21 : Nat)), ((0 : Nat), (17 : Nat), (24 : Nat), (23 : Nat))]) ∈ lw_tbl := qt_tables_1_3 (List.mem_of_getElem? (i := 180) rfl)
theorem q_661 : (Cond.methodLink "ContainerKitLaw" (60 : Nat) ({ cls := "ContainerKit", name := "has", desc := "(II)Z" } : MethodName)) ∈ lw_tbl := qt_tables_1_3 (List.mem_of_getElem? (i := 181) rfl)
theorem q_662 : (Cond.instanceMethod ({ cls := "ContainerKit", name := "has", desc := "(II)Z" } : MethodName)) ∈ lw_tbl := qt_tables_1_3 (List.mem_of_getElem? (i := 182) rfl)
theorem q_663 : (Cond.selects "ContainerKit" ({ cls := "ContainerKit", name := "has", desc := "(II)Z" } : MethodName) ({ cls := "ContainerKit", name := "has", desc := "(II)Z" } : MethodName)) ∈ lw_tbl := qt_tables_1_3 (List.mem_of_getElem? (i := 183) rfl)
theorem q_664 : (Cond.code ({ cls := "ContainerKit", name := "has", desc := "(II)Z" } : MethodName) prog_1_method_13_code (3 : Nat) (Option.some FieldType.boolean)) ∈ lw_tbl := qt_tables_1_3 (List.mem_of_getElem? (i := 184) rfl)
theorem q_665 : (Cond.methodLink "ContainerKitLaw" (156 : Nat) ({ cls := "ContainerKitLaw", name := "value", desc := "(LContainerKit;II[J)I" } : MethodName)) ∈ lw_tbl := qt_tables_1_3 (List.mem_of_getElem? (i := 185) rfl)
theorem q_666 : (Cond.static ({ cls := "ContainerKitLaw", name := "value", desc := "(LContainerKit;II[J)I" } : MethodName)) ∈ lw_tbl := qt_tables_1_3 (List.mem_of_getElem? (i := 186) rfl)
theorem q_667 : (Cond.codeWith ({ cls := "ContainerKitLaw", name := "value", desc := "(LContainerKit;II[J)I" } : MethodName) method_15_code (5 : Nat) (Option.some FieldType.int) [((0 : Nat), (10 : Nat), (13 : Nat), (21 : Nat)), ((0 : Nat), (10 : Nat), (17 : Nat), (23 : Nat)), ((0 : Nat), (10 : Nat), (21 : Nat), (37 : Nat))]) ∈ lw_tbl := qt_tables_1_3 (List.mem_of_getElem? (i := 187) rfl)
theorem q_668 : (Cond.methodLink "ContainerKitLaw" (64 : Nat) ({ cls := "ContainerKit", name := "value", desc := "(II)I" } : MethodName)) ∈ lw_tbl := qt_tables_1_3 (List.mem_of_getElem? (i := 188) rfl)
theorem q_669 : (Cond.instanceMethod ({ cls := "ContainerKit", name := "value", desc := "(II)I" } : MethodName)) ∈ lw_tbl := qt_tables_1_3 (List.mem_of_getElem? (i := 189) rfl)
theorem q_670 : (Cond.selects "ContainerKit" ({ cls := "ContainerKit", name := "value", desc := "(II)I" } : MethodName) ({ cls := "ContainerKit", name := "value", desc := "(II)I" } : MethodName)) ∈ lw_tbl := qt_tables_1_3 (List.mem_of_getElem? (i := 190) rfl)
theorem q_671 : (Cond.code ({ cls := "ContainerKit", name := "value", desc := "(II)I" } : MethodName) prog_1_method_14_code (6 : Nat) (Option.some FieldType.int)) ∈ lw_tbl := qt_tables_1_3 (List.mem_of_getElem? (i := 191) rfl)
theorem q_672 : (Cond.methodLink "ContainerKit" (135 : Nat) ({ cls := "ContainerKit$Store", name := "noteUse", desc := "(I)V" } : MethodName)) ∈ lw_tbl := qt_tables_1_3 (List.mem_of_getElem? (i := 192) rfl)
theorem q_673 : (Cond.methodLink "ContainerKitLaw" (159 : Nat) ({ cls := "ContainerKitLaw", name := "drop", desc := "(LContainerKit;II[J)I" } : MethodName)) ∈ lw_tbl := qt_tables_1_3 (List.mem_of_getElem? (i := 193) rfl)
theorem q_674 : (Cond.static ({ cls := "ContainerKitLaw", name := "drop", desc := "(LContainerKit;II[J)I" } : MethodName)) ∈ lw_tbl := qt_tables_1_3 (List.mem_of_getElem? (i := 194) rfl)
theorem q_675 : (Cond.codeWith ({ cls := "ContainerKitLaw", name := "drop", desc := "(LContainerKit;II[J)I" } : MethodName) method_16_code (5 : Nat) (Option.some FieldType.int) [((0 : Nat), (10 : Nat), (13 : Nat), (21 : Nat)), ((0 : Nat), (10 : Nat), (17 : Nat), (23 : Nat)), ((0 : Nat), (10 : Nat), (21 : Nat), (37 : Nat))]) ∈ lw_tbl := qt_tables_1_3 (List.mem_of_getElem? (i := 195) rfl)
theorem q_676 : (Cond.methodLink "ContainerKitLaw" (67 : Nat) ({ cls := "ContainerKit", name := "drop", desc := "(II)I" } : MethodName)) ∈ lw_tbl := qt_tables_1_3 (List.mem_of_getElem? (i := 196) rfl)
theorem q_677 : (Cond.instanceMethod ({ cls := "ContainerKit", name := "drop", desc := "(II)I" } : MethodName)) ∈ lw_tbl := qt_tables_1_3 (List.mem_of_getElem? (i := 197) rfl)
theorem q_678 : (Cond.selects "ContainerKit" ({ cls := "ContainerKit", name := "drop", desc := "(II)I" } : MethodName) ({ cls := "ContainerKit", name := "drop", desc := "(II)I" } : MethodName)) ∈ lw_tbl := qt_tables_1_3 (List.mem_of_getElem? (i := 198) rfl)
theorem q_679 : (Cond.code ({ cls := "ContainerKit", name := "drop", desc := "(II)I" } : MethodName) prog_1_method_15_code (6 : Nat) (Option.some FieldType.int)) ∈ lw_tbl := qt_tables_1_3 (List.mem_of_getElem? (i := 199) rfl)
theorem q_680 : (Cond.methodLink "ContainerKitLaw" (162 : Nat) ({ cls := "ContainerKitLaw", name := "near", desc := "(LContainerKit;III[J)I" } : MethodName)) ∈ lw_tbl := qt_tables_1_3 (List.mem_of_getElem? (i := 200) rfl)
theorem q_681 : (Cond.static ({ cls := "ContainerKitLaw", name := "near", desc := "(LContainerKit;III[J)I" } : MethodName)) ∈ lw_tbl := qt_tables_1_3 (List.mem_of_getElem? (i := 201) rfl)
theorem q_682 : (Cond.codeWith ({ cls := "ContainerKitLaw", name := "near", desc := "(LContainerKit;III[J)I" } : MethodName) method_17_code (6 : Nat) (Option.some FieldType.int) [((0 : Nat), (12 : Nat), (15 : Nat), (21 : Nat)), ((0 : Nat), (12 : Nat), (19 : Nat), (23 : Nat)), ((0 : Nat), (12 : Nat), (23 : Nat), (13 : Nat)), ((0 : Nat), (12 : Nat), (27 : Nat), (37 : Nat))]) ∈ lw_tbl := qt_tables_1_3 (List.mem_of_getElem? (i := 202) rfl)
theorem q_683 : (Cond.methodLink "ContainerKitLaw" (70 : Nat) ({ cls := "ContainerKit", name := "near", desc := "(III)I" } : MethodName)) ∈ lw_tbl := qt_tables_1_3 (List.mem_of_getElem? (i := 203) rfl)
theorem q_684 : (Cond.instanceMethod ({ cls := "ContainerKit", name := "near", desc := "(III)I" } : MethodName)) ∈ lw_tbl := qt_tables_1_3 (List.mem_of_getElem? (i := 204) rfl)
theorem q_685 : (Cond.selects "ContainerKit" ({ cls := "ContainerKit", name := "near", desc := "(III)I" } : MethodName) ({ cls := "ContainerKit", name := "near", desc := "(III)I" } : MethodName)) ∈ lw_tbl := qt_tables_1_3 (List.mem_of_getElem? (i := 205) rfl)
theorem q_686 : (Cond.code ({ cls := "ContainerKit", name := "near", desc := "(III)I" } : MethodName) prog_1_method_16_code (8 : Nat) (Option.some FieldType.int)) ∈ lw_tbl := qt_tables_1_3 (List.mem_of_getElem? (i := 206) rfl)
theorem q_687 : (Cond.methodLink "ContainerKit" (138 : Nat) ({ cls := "ContainerKit$Container", name := "placesBefore", desc := "(IZ)I" } : MethodName)) ∈ lw_tbl := qt_tables_1_3 (List.mem_of_getElem? (i := 207) rfl)
theorem q_688 : (Cond.instanceMethod ({ cls := "ContainerKit$Container", name := "placesBefore", desc := "(IZ)I" } : MethodName)) ∈ lw_tbl := qt_tables_1_3 (List.mem_of_getElem? (i := 208) rfl)
theorem q_689 : (Cond.sameMethod "ContainerKit$Container" "ContainerKit$Container" "placesBefore" "(IZ)I") ∈ lw_tbl := qt_tables_1_3 (List.mem_of_getElem? (i := 209) rfl)
theorem q_690 : (Cond.selects "ContainerKit$Part" ({ cls := "ContainerKit$Container", name := "placesBefore", desc := "(IZ)I" } : MethodName) ({ cls := "ContainerKit$Container", name := "placesBefore", desc := "(IZ)I" } : MethodName)) ∈ lw_tbl := qt_tables_1_3 (List.mem_of_getElem? (i := 210) rfl)
theorem q_691 : (Cond.selects "ContainerKit$Range" ({ cls := "ContainerKit$Container", name := "placesBefore", desc := "(IZ)I" } : MethodName) ({ cls := "ContainerKit$Container", name := "placesBefore", desc := "(IZ)I" } : MethodName)) ∈ lw_tbl := qt_tables_1_3 (List.mem_of_getElem? (i := 211) rfl)
theorem q_692 : (Cond.selects "ContainerKit$Whole" ({ cls := "ContainerKit$Container", name := "placesBefore", desc := "(IZ)I" } : MethodName) ({ cls := "ContainerKit$Container", name := "placesBefore", desc := "(IZ)I" } : MethodName)) ∈ lw_tbl := qt_tables_1_3 (List.mem_of_getElem? (i := 212) rfl)
theorem q_693 : (Cond.code ({ cls := "ContainerKit$Container", name := "placesBefore", desc := "(IZ)I" } : MethodName) prog_2_method_15_code (4 : Nat) (Option.some FieldType.int)) ∈ lw_tbl := qt_tables_1_3 (List.mem_of_getElem? (i := 213) rfl)
theorem q_694 : (Cond.methodLink "ContainerKit$Container" (49 : Nat) ({ cls := "ContainerKit$Store", name := "placesBefore", desc := "(IZ)I" } : MethodName)) ∈ lw_tbl := qt_tables_1_3 (List.mem_of_getElem? (i := 214) rfl)
theorem q_695 : (Cond.methodLink "ContainerKit$Container" (53 : Nat) ({ cls := "java/lang/Math", name := "min", desc := "(II)I" } : MethodName)) ∈ lw_tbl := qt_tables_1_3 (List.mem_of_getElem? (i := 215) rfl)
theorem q_696 : (Cond.methodLink "ContainerKit$Container" (59 : Nat) ({ cls := "java/lang/Math", name := "max", desc := "(II)I" } : MethodName)) ∈ lw_tbl := qt_tables_1_3 (List.mem_of_getElem? (i := 216) rfl)
theorem q_697 : (Cond.methodLink "ContainerKitLaw" (165 : Nat) ({ cls := "ContainerKitLaw", name := "room", desc := "(LContainerKit;I[J)I" } : MethodName)) ∈ lw_tbl := qt_tables_1_3 (List.mem_of_getElem? (i := 217) rfl)
theorem q_698 : (Cond.static ({ cls := "ContainerKitLaw", name := "room", desc := "(LContainerKit;I[J)I" } : MethodName)) ∈ lw_tbl := qt_tables_1_3 (List.mem_of_getElem? (i := 218) rfl)
theorem q_699 : (Cond.codeWith ({ cls := "ContainerKitLaw", name := "room", desc := "(LContainerKit;I[J)I" } : MethodName) method_18_code (4 : Nat) (Option.some FieldType.int) [((0 : Nat), (9 : Nat), (12 : Nat), (21 : Nat)), ((0 : Nat), (9 : Nat), (15 : Nat), (23 : Nat))]) ∈ lw_tbl := qt_tables_1_3 (List.mem_of_getElem? (i := 219) rfl)
theorem q_700 : (Cond.methodLink "ContainerKitLaw" (73 : Nat) ({ cls := "ContainerKit", name := "room", desc := "(I)I" } : MethodName)) ∈ lw_tbl := qt_tables_1_3 (List.mem_of_getElem? (i := 220) rfl)
theorem q_701 : (Cond.instanceMethod ({ cls := "ContainerKit", name := "room", desc := "(I)I" } : MethodName)) ∈ lw_tbl := qt_tables_1_3 (List.mem_of_getElem? (i := 221) rfl)
theorem q_702 : (Cond.selects "ContainerKit" ({ cls := "ContainerKit", name := "room", desc := "(I)I" } : MethodName) ({ cls := "ContainerKit", name := "room", desc := "(I)I" } : MethodName)) ∈ lw_tbl := qt_tables_1_3 (List.mem_of_getElem? (i := 222) rfl)
theorem q_703 : (Cond.code ({ cls := "ContainerKit", name := "room", desc := "(I)I" } : MethodName) prog_1_method_17_code (3 : Nat) (Option.some FieldType.int)) ∈ lw_tbl := qt_tables_1_3 (List.mem_of_getElem? (i := 223) rfl)
theorem q_704 : (Cond.methodLink "ContainerKit" (139 : Nat) ({ cls := "ContainerKit$Container", name := "isHashed", desc := "()Z" } : MethodName)) ∈ lw_tbl := qt_tables_1_3 (List.mem_of_getElem? (i := 224) rfl)
theorem q_705 : (Cond.methodLink "ContainerKitLaw" (168 : Nat) ({ cls := "ContainerKitLaw", name := "bucket", desc := "(LContainerKit;II[J)I" } : MethodName)) ∈ lw_tbl := qt_tables_1_3 (List.mem_of_getElem? (i := 225) rfl)
theorem q_706 : (Cond.static ({ cls := "ContainerKitLaw", name := "bucket", desc := "(LContainerKit;II[J)I" } : MethodName)) ∈ lw_tbl := qt_tables_1_3 (List.mem_of_getElem? (i := 226) rfl)
theorem q_707 : (Cond.codeWith ({ cls := "ContainerKitLaw", name := "bucket", desc := "(LContainerKit;II[J)I" } : MethodName) method_19_code (5 : Nat) (Option.some FieldType.int) [((0 : Nat), (10 : Nat), (13 : Nat), (21 : Nat)), ((0 : Nat), (10 : Nat), (17 : Nat), (23 : Nat))]) ∈ lw_tbl := qt_tables_1_3 (List.mem_of_getElem? (i := 227) rfl)
theorem q_708 : (Cond.methodLink "ContainerKitLaw" (76 : Nat) ({ cls := "ContainerKit", name := "bucket", desc := "(II)I" } : MethodName)) ∈ lw_tbl := qt_tables_1_3 (List.mem_of_getElem? (i := 228) rfl)
theorem q_709 : (Cond.instanceMethod ({ cls := "ContainerKit", name := "bucket", desc := "(II)I" } : MethodName)) ∈ lw_tbl := qt_tables_1_3 (List.mem_of_getElem? (i := 229) rfl)
theorem q_710 : (Cond.selects "ContainerKit" ({ cls := "ContainerKit", name := "bucket", desc := "(II)I" } : MethodName) ({ cls := "ContainerKit", name := "bucket", desc := "(II)I" } : MethodName)) ∈ lw_tbl := qt_tables_1_3 (List.mem_of_getElem? (i := 230) rfl)
theorem q_711 : (Cond.code ({ cls := "ContainerKit", name := "bucket", desc := "(II)I" } : MethodName) prog_1_method_18_code (4 : Nat) (Option.some FieldType.int)) ∈ lw_tbl := qt_tables_1_3 (List.mem_of_getElem? (i := 231) rfl)
theorem q_712 : (Cond.methodLink "ContainerKit" (145 : Nat) ({ cls := "ContainerKit$Store", name := "countInBucketOf", desc := "(I)I" } : MethodName)) ∈ lw_tbl := qt_tables_1_3 (List.mem_of_getElem? (i := 232) rfl)
theorem q_713 : (Cond.instanceMethod ({ cls := "ContainerKit$Store", name := "countInBucketOf", desc := "(I)I" } : MethodName)) ∈ lw_tbl := qt_tables_1_3 (List.mem_of_getElem? (i := 233) rfl)
theorem q_714 : (Cond.selects "ContainerKit$Store" ({ cls := "ContainerKit$Store", name := "countInBucketOf", desc := "(I)I" } : MethodName) ({ cls := "ContainerKit$Store", name := "countInBucketOf", desc := "(I)I" } : MethodName)) ∈ lw_tbl := qt_tables_1_3 (List.mem_of_getElem? (i := 234) rfl)
theorem q_715 : (Cond.code ({ cls := "ContainerKit$Store", name := "countInBucketOf", desc := "(I)I" } : MethodName) prog_5_method_16_code (4 : Nat) (Option.some FieldType.int)) ∈ lw_tbl := qt_tables_1_3 (List.mem_of_getElem? (i := 235) rfl)
theorem q_716 : (Cond.methodLink "ContainerKit$Store" (68 : Nat) ({ cls := "ContainerKit$Store", name := "bucketOf", desc := "(I)I" } : MethodName)) ∈ lw_tbl := qt_tables_1_3 (List.mem_of_getElem? (i := 236) rfl)
theorem q_717 : (Cond.privateMethod ({ cls := "ContainerKit$Store", name := "bucketOf", desc := "(I)I" } : MethodName)) ∈ lw_tbl := qt_tables_1_3 (List.mem_of_getElem? (i := 237) rfl)
theorem q_718 : (Cond.instanceMethod ({ cls := "ContainerKit$Store", name := "bucketOf", desc := "(I)I" } : MethodName)) ∈ lw_tbl := qt_tables_1_3 (List.mem_of_getElem? (i := 238) rfl)
theorem q_719 : (Cond.code ({ cls := "ContainerKit$Store", name := "bucketOf", desc := "(I)I" } : MethodName) prog_5_method_17_code (2 : Nat) (Option.some FieldType.int)) ∈ lw_tbl := qt_tables_1_3 (List.mem_of_getElem? (i := 239) rfl)
theorem q_720 : (Cond.methodLink "ContainerKitLaw" (171 : Nat) ({ cls := "ContainerKitLaw", name := "sift", desc := "(LContainerKit;III[J)I" } : MethodName)) ∈ lw_tbl := qt_tables_1_4 (List.mem_of_getElem? (i := 0) rfl)
theorem q_721 : (Cond.static ({ cls := "ContainerKitLaw", name := "sift", desc := "(LContainerKit;III[J)I" } : MethodName)) ∈ lw_tbl := qt_tables_1_4 (List.mem_of_getElem? (i := 1) rfl)
theorem q_722 : (Cond.codeWith ({ cls := "ContainerKitLaw", name := "sift", desc := "(LContainerKit;III[J)I" } : MethodName) method_20_code (6 : Nat) (Option.some FieldType.int) [((0 : Nat), (12 : Nat), (15 : Nat), (21 : Nat)), ((0 : Nat), (12 : Nat), (19 : Nat), (23 : Nat)), ((0 : Nat), (12 : Nat), (23 : Nat), (13 : Nat)), ((0 : Nat), (12 : Nat), (27 : Nat), (25 : Nat))]) ∈ lw_tbl := qt_tables_1_4 (List.mem_of_getElem? (i := 2) rfl)
theorem q_723 : (Cond.methodLink "ContainerKitLaw" (79 : Nat) ({ cls := "ContainerKit", name := "sift", desc := "(III)I" } : MethodName)) ∈ lw_tbl := qt_tables_1_4 (List.mem_of_getElem? (i := 3) rfl)
theorem q_724 : (Cond.instanceMethod ({ cls := "ContainerKit", name := "sift", desc := "(III)I" } : MethodName)) ∈ lw_tbl := qt_tables_1_4 (List.mem_of_getElem? (i := 4) rfl)
theorem q_725 : (Cond.selects "ContainerKit" ({ cls := "ContainerKit", name := "sift", desc := "(III)I" } : MethodName) ({ cls := "ContainerKit", name := "sift", desc := "(III)I" } : MethodName)) ∈ lw_tbl := qt_tables_1_4 (List.mem_of_getElem? (i := 5) rfl)
theorem q_726 : (Cond.code ({ cls := "ContainerKit", name := "sift", desc := "(III)I" } : MethodName) prog_1_method_19_code (5 : Nat) (Option.some FieldType.int)) ∈ lw_tbl := qt_tables_1_4 (List.mem_of_getElem? (i := 6) rfl)
theorem q_727 : (Cond.methodLink "ContainerKit" (148 : Nat) ({ cls := "ContainerKit$Container", name := "takeAll", desc := "(II)I" } : MethodName)) ∈ lw_tbl := qt_tables_1_4 (List.mem_of_getElem? (i := 7) rfl)
theorem q_728 : (Cond.instanceMethod ({ cls := "ContainerKit$Container", name := "takeAll", desc := "(II)I" } : MethodName)) ∈ lw_tbl := qt_tables_1_4 (List.mem_of_getElem? (i := 8) rfl)
theorem q_729 : (Cond.sameMethod "ContainerKit$Container" "ContainerKit$Container" "takeAll" "(II)I") ∈ lw_tbl := qt_tables_1_4 (List.mem_of_getElem? (i := 9) rfl)
theorem q_730 : (Cond.selects "ContainerKit$Part" ({ cls := "ContainerKit$Container", name := "takeAll", desc := "(II)I" } : MethodName) ({ cls := "ContainerKit$Container", name := "takeAll", desc := "(II)I" } : MethodName)) ∈ lw_tbl := qt_tables_1_4 (List.mem_of_getElem? (i := 10) rfl)
theorem q_731 : (Cond.selects "ContainerKit$Range" ({ cls := "ContainerKit$Container", name := "takeAll", desc := "(II)I" } : MethodName) ({ cls := "ContainerKit$Container", name := "takeAll", desc := "(II)I" } : MethodName)) ∈ lw_tbl := qt_tables_1_4 (List.mem_of_getElem? (i := 11) rfl)
theorem q_732 : (Cond.selects "ContainerKit$Whole" ({ cls := "ContainerKit$Container", name := "takeAll", desc := "(II)I" } : MethodName) ({ cls := "ContainerKit$Container", name := "takeAll", desc := "(II)I" } : MethodName)) ∈ lw_tbl := qt_tables_1_4 (List.mem_of_getElem? (i := 12) rfl)
theorem q_733 : (Cond.code ({ cls := "ContainerKit$Container", name := "takeAll", desc := "(II)I" } : MethodName) prog_2_method_21_code (5 : Nat) (Option.some FieldType.int)) ∈ lw_tbl := qt_tables_1_4 (List.mem_of_getElem? (i := 13) rfl)
theorem q_734 : (Cond.methodLink "ContainerKit$Container" (85 : Nat) ({ cls := "java/lang/Math", name := "floorMod", desc := "(II)I" } : MethodName)) ∈ lw_tbl := qt_tables_1_4 (List.mem_of_getElem? (i := 14) rfl)
theorem q_735 : (Cond.methodLink "ContainerKit$Container" (88 : Nat) ({ cls := "ContainerKit$Container", name := "take", desc := "(I)I" } : MethodName)) ∈ lw_tbl := qt_tables_1_4 (List.mem_of_getElem? (i := 15) rfl)
theorem q_736 : (Cond.methodLink "ContainerKitLaw" (174 : Nat) ({ cls := "ContainerKitLaw", name := "same", desc := "(LContainerKit;II[J)I" } : MethodName)) ∈ lw_tbl := qt_tables_1_4 (List.mem_of_getElem? (i := 16) rfl)
theorem q_737 : (Cond.static ({ cls := "ContainerKitLaw", name := "same", desc := "(LContainerKit;II[J)I" } : MethodName)) ∈ lw_tbl := qt_tables_1_4 (List.mem_of_getElem? (i := 17) rfl)
theorem q_738 : (Cond.codeWith ({ cls := "ContainerKitLaw", name := "same", desc := "(LContainerKit;II[J)I" } : MethodName) method_21_code (5 : Nat) (Option.some FieldType.int) [((0 : Nat), (17 : Nat), (20 : Nat), (21 : Nat)), ((0 : Nat), (17 : Nat), (24 : Nat), (25 : Nat))]) ∈ lw_tbl := qt_tables_1_4 (List.mem_of_getElem? (i := 18) rfl)
theorem q_739 : (Cond.methodLink "ContainerKitLaw" (82 : Nat) ({ cls := "ContainerKit", name := "same", desc := "(II)Z" } : MethodName)) ∈ lw_tbl := qt_tables_1_4 (List.mem_of_getElem? (i := 19) rfl)
theorem q_740 : (Cond.instanceMethod ({ cls := "ContainerKit", name := "same", desc := "(II)Z" } : MethodName)) ∈ lw_tbl := qt_tables_1_4 (List.mem_of_getElem? (i := 20) rfl)
theorem q_741 : (Cond.selects "ContainerKit" ({ cls := "ContainerKit", name := "same", desc := "(II)Z" } : MethodName) ({ cls := "ContainerKit", name := "same", desc := "(II)Z" } : MethodName)) ∈ lw_tbl := qt_tables_1_4 (List.mem_of_getElem? (i := 21) rfl)
theorem q_742 : (Cond.code ({ cls := "ContainerKit", name := "same", desc := "(II)Z" } : MethodName) prog_1_method_20_code (5 : Nat) (Option.some FieldType.boolean)) ∈ lw_tbl := qt_tables_1_4 (List.mem_of_getElem? (i := 22) rfl)
theorem q_743 : (Cond.methodLink "ContainerKit" (151 : Nat) ({ cls := "ContainerKit$Container", name := "hasNumbersOf", desc := "(LContainerKit$Container;)Z" } : MethodName)) ∈ lw_tbl := qt_tables_1_4 (List.mem_of_getElem? (i := 23) rfl)
theorem q_744 : (Cond.instanceMethod ({ cls := "ContainerKit$Container", name := "hasNumbersOf", desc := "(LContainerKit$Container;)Z" } : MethodName)) ∈ lw_tbl := qt_tables_1_4 (List.mem_of_getElem? (i := 24) rfl)
theorem q_745 : (Cond.sameMethod "ContainerKit$Container" "ContainerKit$Container" "hasNumbersOf" "(LContainerKit$Container;)Z") ∈ lw_tbl := qt_tables_1_4 (List.mem_of_getElem? (i := 25) rfl)
theorem q_746 : (Cond.selects "ContainerKit$Part" ({ cls := "ContainerKit$Container", name := "hasNumbersOf", desc := "(LContainerKit$Container;)Z" } : MethodName) ({ cls := "ContainerKit$Container", name := "hasNumbersOf", desc := "(LContainerKit$Container;)Z" } : MethodName)) ∈ lw_tbl := qt_tables_1_4 (List.mem_of_getElem? (i := 26) rfl)
theorem q_747 : (Cond.selects "ContainerKit$Range" ({ cls := "ContainerKit$Container", name := "hasNumbersOf", desc := "(LContainerKit$Container;)Z" } : MethodName) ({ cls := "ContainerKit$Container", name := "hasNumbersOf", desc := "(LContainerKit$Container;)Z" } : MethodName)) ∈ lw_tbl := qt_tables_1_4 (List.mem_of_getElem? (i := 27) rfl)
theorem q_748 : (Cond.selects "ContainerKit$Whole" ({ cls := "ContainerKit$Container", name := "hasNumbersOf", desc := "(LContainerKit$Container;)Z" } : MethodName) ({ cls := "ContainerKit$Container", name := "hasNumbersOf", desc := "(LContainerKit$Container;)Z" } : MethodName)) ∈ lw_tbl := qt_tables_1_4 (List.mem_of_getElem? (i := 28) rfl)
theorem q_749 : (Cond.code ({ cls := "ContainerKit$Container", name := "hasNumbersOf", desc := "(LContainerKit$Container;)Z" } : MethodName) prog_2_method_22_code (4 : Nat) (Option.some FieldType.boolean)) ∈ lw_tbl := qt_tables_1_4 (List.mem_of_getElem? (i := 29) rfl)
theorem q_750 : (Cond.methodLink "ContainerKit" (158 : Nat) ({ cls := "ContainerKit$Container", name := "hasPairsOf", desc := "(LContainerKit$Container;)Z" } : MethodName)) ∈ lw_tbl := qt_tables_1_4 (List.mem_of_getElem? (i := 30) rfl)
theorem q_751 : (Cond.instanceMethod ({ cls := "ContainerKit$Container", name := "hasPairsOf", desc := "(LContainerKit$Container;)Z" } : MethodName)) ∈ lw_tbl := qt_tables_1_4 (List.mem_of_getElem? (i := 31) rfl)
theorem q_752 : (Cond.sameMethod "ContainerKit$Container" "ContainerKit$Container" "hasPairsOf" "(LContainerKit$Container;)Z") ∈ lw_tbl := qt_tables_1_4 (List.mem_of_getElem? (i := 32) rfl)
theorem q_753 : (Cond.selects "ContainerKit$Part" ({ cls := "ContainerKit$Container", name := "hasPairsOf", desc := "(LContainerKit$Container;)Z" } : MethodName) ({ cls := "ContainerKit$Container", name := "hasPairsOf", desc := "(LContainerKit$Container;)Z" } : MethodName)) ∈ lw_tbl := qt_tables_1_4 (List.mem_of_getElem? (i := 33) rfl)
theorem q_754 : (Cond.selects "ContainerKit$Range" ({ cls := "ContainerKit$Container", name := "hasPairsOf", desc := "(LContainerKit$Container;)Z" } : MethodName) ({ cls := "ContainerKit$Container", name := "hasPairsOf", desc := "(LContainerKit$Container;)Z" } : MethodName)) ∈ lw_tbl := qt_tables_1_4 (List.mem_of_getElem? (i := 34) rfl)
theorem q_755 : (Cond.selects "ContainerKit$Whole" ({ cls := "ContainerKit$Container", name := "hasPairsOf", desc := "(LContainerKit$Container;)Z" } : MethodName) ({ cls := "ContainerKit$Container", name := "hasPairsOf", desc := "(LContainerKit$Container;)Z" } : MethodName)) ∈ lw_tbl := qt_tables_1_4 (List.mem_of_getElem? (i := 35) rfl)
theorem q_756 : (Cond.code ({ cls := "ContainerKit$Container", name := "hasPairsOf", desc := "(LContainerKit$Container;)Z" } : MethodName) prog_2_method_23_code (5 : Nat) (Option.some FieldType.boolean)) ∈ lw_tbl := qt_tables_1_4 (List.mem_of_getElem? (i := 36) rfl)
theorem q_757 : (Cond.methodLink "ContainerKit$Container" (91 : Nat) ({ cls := "ContainerKit$Container", name := "placeOf", desc := "(I)I" } : MethodName)) ∈ lw_tbl := qt_tables_1_4 (List.mem_of_getElem? (i := 37) rfl)
theorem q_758 : (Cond.methodLink "ContainerKit$Container" (67 : Nat) ({ cls := "ContainerKit$Container", name := "valueAt", desc := "(I)I" } : MethodName)) ∈ lw_tbl := qt_tables_1_4 (List.mem_of_getElem? (i := 38) rfl)
theorem q_759 : (Cond.methodLink "ContainerKitLaw" (177 : Nat) ({ cls := "ContainerKitLaw", name := "open", desc := "(LContainerKit;II)I" } : MethodName)) ∈ lw_tbl := qt_tables_1_4 (List.mem_of_getElem? (i := 39) rfl)
theorem q_760 : (Cond.static ({ cls := "ContainerKitLaw", name := "open", desc := "(LContainerKit;II)I" } : MethodName)) ∈ lw_tbl := qt_tables_1_4 (List.mem_of_getElem? (i := 40) rfl)
theorem q_761 : (Cond.codeWith ({ cls := "ContainerKitLaw", name := "open", desc := "(LContainerKit;II)I" } : MethodName) method_22_code (4 : Nat) (Option.some FieldType.int) [((0 : Nat), (6 : Nat), (9 : Nat), (21 : Nat)), ((0 : Nat), (6 : Nat), (12 : Nat), (23 : Nat)), ((0 : Nat), (6 : Nat), (15 : Nat), (25 : Nat))]) ∈ lw_tbl := qt_tables_1_4 (List.mem_of_getElem? (i := 41) rfl)
theorem q_762 : (Cond.methodLink "ContainerKitLaw" (85 : Nat) ({ cls := "ContainerKit", name := "open", desc := "(II)V" } : MethodName)) ∈ lw_tbl := qt_tables_1_4 (List.mem_of_getElem? (i := 42) rfl)
theorem q_763 : (Cond.instanceMethod ({ cls := "ContainerKit", name := "open", desc := "(II)V" } : MethodName)) ∈ lw_tbl := qt_tables_1_4 (List.mem_of_getElem? (i := 43) rfl)
theorem q_764 : (Cond.selects "ContainerKit" ({ cls := "ContainerKit", name := "open", desc := "(II)V" } : MethodName) ({ cls := "ContainerKit", name := "open", desc := "(II)V" } : MethodName)) ∈ lw_tbl := qt_tables_1_4 (List.mem_of_getElem? (i := 44) rfl)
theorem q_765 : (Cond.code ({ cls := "ContainerKit", name := "open", desc := "(II)V" } : MethodName) prog_1_method_21_code (5 : Nat) (Option.none : Option FieldType)) ∈ lw_tbl := qt_tables_1_4 (List.mem_of_getElem? (i := 45) rfl)
theorem q_766 : (Cond.methodLink "ContainerKit" (161 : Nat) ({ cls := "ContainerKit", name := "walkAt", desc := "(I)LContainerKit$Walk;" } : MethodName)) ∈ lw_tbl := qt_tables_1_4 (List.mem_of_getElem? (i := 46) rfl)
theorem q_767 : (Cond.privateMethod ({ cls := "ContainerKit", name := "walkAt", desc := "(I)LContainerKit$Walk;" } : MethodName)) ∈ lw_tbl := qt_tables_1_4 (List.mem_of_getElem? (i := 47) rfl)
theorem q_768 : (Cond.instanceMethod ({ cls := "ContainerKit", name := "walkAt", desc := "(I)LContainerKit$Walk;" } : MethodName)) ∈ lw_tbl := qt_tables_1_4 (List.mem_of_getElem? (i := 48) rfl)
theorem q_769 : (Cond.code ({ cls := "ContainerKit", name := "walkAt", desc := "(I)LContainerKit$Walk;" } : MethodName) prog_1_method_31_code (2 : Nat) (Option.some (FieldType.object "ContainerKit$Walk"))) ∈ lw_tbl := qt_tables_1_4 (List.mem_of_getElem? (i := 49) rfl)
theorem q_770 : (Cond.stringRef "ContainerKit" (202 : Nat) "no such iterator") ∈ lw_tbl := qt_tables_1_4 (List.mem_of_getElem? (i := 50) rfl)
theorem q_771 : (Cond.methodLink "ContainerKit" (165 : Nat) ({ cls := "ContainerKit$Walk", name := "begin", desc := "(LContainerKit$Container;)V" } : MethodName)) ∈ lw_tbl := qt_tables_1_4 (List.mem_of_getElem? (i := 51) rfl)
theorem q_772 : (Cond.instanceMethod ({ cls := "ContainerKit$Walk", name := "begin", desc := "(LContainerKit$Container;)V" } : MethodName)) ∈ lw_tbl := qt_tables_1_4 (List.mem_of_getElem? (i := 52) rfl)
theorem q_773 : (Cond.selects "ContainerKit$Walk" ({ cls := "ContainerKit$Walk", name := "begin", desc := "(LContainerKit$Container;)V" } : MethodName) ({ cls := "ContainerKit$Walk", name := "begin", desc := "(LContainerKit$Container;)V" } : MethodName)) ∈ lw_tbl := qt_tables_1_4 (List.mem_of_getElem? (i := 53) rfl)
theorem q_774 : (Cond.code ({ cls := "ContainerKit$Walk", name := "begin", desc := "(LContainerKit$Container;)V" } : MethodName) prog_6_method_2_code (2 : Nat) (Option.none : Option FieldType)) ∈ lw_tbl := qt_tables_1_4 (List.mem_of_getElem? (i := 54) rfl)
theorem q_775 : (Cond.methodLink "ContainerKit$Walk" (25 : Nat) ({ cls := "ContainerKit$Walk", name := "standAt", desc := "(I)V" } : MethodName)) ∈ lw_tbl := qt_tables_1_4 (List.mem_of_getElem? (i := 55) rfl)
theorem q_776 : (Cond.instanceMethod ({ cls := "ContainerKit$Walk", name := "standAt", desc := "(I)V" } : MethodName)) ∈ lw_tbl := qt_tables_1_4 (List.mem_of_getElem? (i := 56) rfl)
theorem q_777 : (Cond.selects "ContainerKit$Walk" ({ cls := "ContainerKit$Walk", name := "standAt", desc := "(I)V" } : MethodName) ({ cls := "ContainerKit$Walk", name := "standAt", desc := "(I)V" } : MethodName)) ∈ lw_tbl := qt_tables_1_4 (List.mem_of_getElem? (i := 57) rfl)
theorem q_778 : (Cond.code ({ cls := "ContainerKit$Walk", name := "standAt", desc := "(I)V" } : MethodName) prog_6_method_3_code (2 : Nat) (Option.none : Option FieldType)) ∈ lw_tbl := qt_tables_1_4 (List.mem_of_getElem? (i := 58) rfl)
theorem q_779 : (Cond.methodLink "ContainerKitLaw" (180 : Nat) ({ cls := "ContainerKitLaw", name := "next", desc := "(LContainerKit;IZ[J)I" } : MethodName)) ∈ lw_tbl := qt_tables_1_4 (List.mem_of_getElem? (i := 59) rfl)
theorem q_780 : (Cond.static ({ cls := "ContainerKitLaw", name := "next", desc := "(LContainerKit;IZ[J)I" } : MethodName)) ∈ lw_tbl := qt_tables_1_4 (List.mem_of_getElem? (i := 60) rfl)
theorem q_781 : (Cond.codeWith ({ cls := "ContainerKitLaw", name := "next", desc := "(LContainerKit;IZ[J)I" } : MethodName) method_23_code (5 : Nat) (Option.some FieldType.int) [((0 : Nat), (10 : Nat), (13 : Nat), (21 : Nat)), ((0 : Nat), (10 : Nat), (17 : Nat), (23 : Nat)), ((0 : Nat), (10 : Nat), (21 : Nat), (37 : Nat)), ((0 : Nat), (10 : Nat), (25 : Nat), (25 : Nat))]) ∈ lw_tbl := qt_tables_1_4 (List.mem_of_getElem? (i := 61) rfl)
theorem q_782 : (Cond.methodLink "ContainerKitLaw" (88 : Nat) ({ cls := "ContainerKit", name := "next", desc := "(IZ)I" } : MethodName)) ∈ lw_tbl := qt_tables_1_4 (List.mem_of_getElem? (i := 62) rfl)
theorem q_783 : (Cond.instanceMethod ({ cls := "ContainerKit", name := "next", desc := "(IZ)I" } : MethodName)) ∈ lw_tbl := qt_tables_1_4 (List.mem_of_getElem? (i := 63) rfl)
theorem q_784 : (Cond.selects "ContainerKit" ({ cls := "ContainerKit", name := "next", desc := "(IZ)I" } : MethodName) ({ cls := "ContainerKit", name := "next", desc := "(IZ)I" } : MethodName)) ∈ lw_tbl := qt_tables_1_4 (List.mem_of_getElem? (i := 64) rfl)
theorem q_785 : (Cond.code ({ cls := "ContainerKit", name := "next", desc := "(IZ)I" } : MethodName) prog_1_method_22_code (6 : Nat) (Option.some FieldType.int)) ∈ lw_tbl := qt_tables_1_4 (List.mem_of_getElem? (i := 65) rfl)
theorem q_786 : (Cond.methodLink "ContainerKit" (168 : Nat) ({ cls := "ContainerKit", name := "openedWalkAt", desc := "(I)LContainerKit$Walk;" } : MethodName)) ∈ lw_tbl := qt_tables_1_4 (List.mem_of_getElem? (i := 66) rfl)
theorem q_787 : (Cond.privateMethod ({ cls := "ContainerKit", name := "openedWalkAt", desc := "(I)LContainerKit$Walk;" } : MethodName)) ∈ lw_tbl := qt_tables_1_4 (List.mem_of_getElem? (i := 67) rfl)
theorem q_788 : (Cond.instanceMethod ({ cls := "ContainerKit", name := "openedWalkAt", desc := "(I)LContainerKit$Walk;" } : MethodName)) ∈ lw_tbl := qt_tables_1_4 (List.mem_of_getElem? (i := 68) rfl)
theorem q_789 : (Cond.code ({ cls := "ContainerKit", name := "openedWalkAt", desc := "(I)LContainerKit$Walk;" } : MethodName) prog_1_method_32_code (3 : Nat) (Option.some (FieldType.object "ContainerKit$Walk"))) ∈ lw_tbl := qt_tables_1_4 (List.mem_of_getElem? (i := 69) rfl)
theorem q_790 : (Cond.stringRef "ContainerKit" (204 : Nat) "the iterator was not opened") ∈ lw_tbl := qt_tables_1_4 (List.mem_of_getElem? (i := 70) rfl)
theorem q_791 : (Cond.methodLink "ContainerKit" (175 : Nat) ({ cls := "ContainerKit", name := "demandFreshWalk", desc := "(LContainerKit$Walk;)V" } : MethodName)) ∈ lw_tbl := qt_tables_1_4 (List.mem_of_getElem? (i := 71) rfl)
theorem q_792 : (Cond.static ({ cls := "ContainerKit", name := "demandFreshWalk", desc := "(LContainerKit$Walk;)V" } : MethodName)) ∈ lw_tbl := qt_tables_1_4 (List.mem_of_getElem? (i := 72) rfl)
theorem q_793 : (Cond.code ({ cls := "ContainerKit", name := "demandFreshWalk", desc := "(LContainerKit$Walk;)V" } : MethodName) prog_1_method_41_code (1 : Nat) (Option.none : Option FieldType)) ∈ lw_tbl := qt_tables_1_4 (List.mem_of_getElem? (i := 73) rfl)
theorem q_794 : (Cond.methodLink "ContainerKit" (262 : Nat) ({ cls := "ContainerKit$Walk", name := "isStale", desc := "()Z" } : MethodName)) ∈ lw_tbl := qt_tables_1_4 (List.mem_of_getElem? (i := 74) rfl)
theorem q_795 : (Cond.instanceMethod ({ cls := "ContainerKit$Walk", name := "isStale", desc := "()Z" } : MethodName)) ∈ lw_tbl := qt_tables_1_4 (List.mem_of_getElem? (i := 75) rfl)
theorem q_796 : (Cond.selects "ContainerKit$Walk" ({ cls := "ContainerKit$Walk", name := "isStale", desc := "()Z" } : MethodName) ({ cls := "ContainerKit$Walk", name := "isStale", desc := "()Z" } : MethodName)) ∈ lw_tbl := qt_tables_1_4 (List.mem_of_getElem? (i := 76) rfl)
theorem q_797 : (Cond.code ({ cls := "ContainerKit$Walk", name := "isStale", desc := "()Z" } : MethodName) prog_6_method_5_code (1 : Nat) (Option.some FieldType.boolean)) ∈ lw_tbl := qt_tables_1_4 (List.mem_of_getElem? (i := 77) rfl)
theorem q_798 : (Cond.methodLink "ContainerKit$Walk" (40 : Nat) ({ cls := "ContainerKit$Container", name := "isStale", desc := "()Z" } : MethodName)) ∈ lw_tbl := qt_tables_1_4 (List.mem_of_getElem? (i := 78) rfl)
theorem q_799 : (Cond.stringRef "ContainerKit" (263 : Nat) "the iterator is stale") ∈ lw_tbl := qt_tables_1_4 (List.mem_of_getElem? (i := 79) rfl)
theorem q_800 : (Cond.methodLink "ContainerKit" (182 : Nat) ({ cls := "ContainerKit$Walk", name := "goOver", desc := "(IZ)V" } : MethodName)) ∈ lw_tbl := qt_tables_1_4 (List.mem_of_getElem? (i := 80) rfl)
theorem q_801 : (Cond.instanceMethod ({ cls := "ContainerKit$Walk", name := "goOver", desc := "(IZ)V" } : MethodName)) ∈ lw_tbl := qt_tables_1_4 (List.mem_of_getElem? (i := 81) rfl)
theorem q_802 : (Cond.selects "ContainerKit$Walk" ({ cls := "ContainerKit$Walk", name := "goOver", desc := "(IZ)V" } : MethodName) ({ cls := "ContainerKit$Walk", name := "goOver", desc := "(IZ)V" } : MethodName)) ∈ lw_tbl := qt_tables_1_4 (List.mem_of_getElem? (i := 82) rfl)
theorem q_803 : (Cond.code ({ cls := "ContainerKit$Walk", name := "goOver", desc := "(IZ)V" } : MethodName) prog_6_method_4_code (3 : Nat) (Option.none : Option FieldType)) ∈ lw_tbl := qt_tables_1_4 (List.mem_of_getElem? (i := 83) rfl)
theorem q_804 : (Cond.methodLink "ContainerKitLaw" (184 : Nat) ({ cls := "ContainerKitLaw", name := "left", desc := "(LContainerKit;I[J)I" } : MethodName)) ∈ lw_tbl := qt_tables_1_4 (List.mem_of_getElem? (i := 84) rfl)
theorem q_805 : (Cond.static ({ cls := "ContainerKitLaw", name := "left", desc := "(LContainerKit;I[J)I" } : MethodName)) ∈ lw_tbl := qt_tables_1_4 (List.mem_of_getElem? (i := 85) rfl)
theorem q_806 : (Cond.codeWith ({ cls := "ContainerKitLaw", name := "left", desc := "(LContainerKit;I[J)I" } : MethodName) method_24_code (4 : Nat) (Option.some FieldType.int) [((0 : Nat), (9 : Nat), (12 : Nat), (21 : Nat)), ((0 : Nat), (9 : Nat), (15 : Nat), (25 : Nat))]) ∈ lw_tbl := qt_tables_1_4 (List.mem_of_getElem? (i := 86) rfl)
theorem q_807 : (Cond.methodLink "ContainerKitLaw" (92 : Nat) ({ cls := "ContainerKit", name := "left", desc := "(I)I" } : MethodName)) ∈ lw_tbl := qt_tables_1_4 (List.mem_of_getElem? (i := 87) rfl)
theorem q_808 : (Cond.instanceMethod ({ cls := "ContainerKit", name := "left", desc := "(I)I" } : MethodName)) ∈ lw_tbl := qt_tables_1_4 (List.mem_of_getElem? (i := 88) rfl)
theorem q_809 : (Cond.selects "ContainerKit" ({ cls := "ContainerKit", name := "left", desc := "(I)I" } : MethodName) ({ cls := "ContainerKit", name := "left", desc := "(I)I" } : MethodName)) ∈ lw_tbl := qt_tables_1_4 (List.mem_of_getElem? (i := 89) rfl)
theorem q_810 : (Cond.code ({ cls := "ContainerKit", name := "left", desc := "(I)I" } : MethodName) prog_1_method_23_code (3 : Nat) (Option.some FieldType.int)) ∈ lw_tbl := qt_tables_1_4 (List.mem_of_getElem? (i := 90) rfl)
theorem q_811 : (Cond.methodLink "ContainerKitLaw" (187 : Nat) ({ cls := "ContainerKitLaw", name := "erase", desc := "(LContainerKit;I)I" } : MethodName)) ∈ lw_tbl := qt_tables_1_4 (List.mem_of_getElem? (i := 91) rfl)
theorem q_812 : (Cond.static ({ cls := "ContainerKitLaw", name := "erase", desc := "(LContainerKit;I)I" } : MethodName)) ∈ lw_tbl := qt_tables_1_4 (List.mem_of_getElem? (i := 92) rfl)
theorem q_813 : (Cond.codeWith ({ cls := "ContainerKitLaw", name := "erase", desc := "(LContainerKit;I)I" } : MethodName) method_25_code (3 : Nat) (Option.some FieldType.int) [((0 : Nat), (5 : Nat), (8 : Nat), (21 : Nat)), ((0 : Nat), (5 : Nat), (11 : Nat), (13 : Nat)), ((0 : Nat), (5 : Nat), (14 : Nat), (25 : Nat))]) ∈ lw_tbl := qt_tables_1_4 (List.mem_of_getElem? (i := 93) rfl)
theorem q_814 : (Cond.methodLink "ContainerKitLaw" (95 : Nat) ({ cls := "ContainerKit", name := "erase", desc := "(I)V" } : MethodName)) ∈ lw_tbl := qt_tables_1_4 (List.mem_of_getElem? (i := 94) rfl)
theorem q_815 : (Cond.instanceMethod ({ cls := "ContainerKit", name := "erase", desc := "(I)V" } : MethodName)) ∈ lw_tbl := qt_tables_1_4 (List.mem_of_getElem? (i := 95) rfl)
theorem q_816 : (Cond.selects "ContainerKit" ({ cls := "ContainerKit", name := "erase", desc := "(I)V" } : MethodName) ({ cls := "ContainerKit", name := "erase", desc := "(I)V" } : MethodName)) ∈ lw_tbl := qt_tables_1_4 (List.mem_of_getElem? (i := 96) rfl)
theorem q_817 : (Cond.code ({ cls := "ContainerKit", name := "erase", desc := "(I)V" } : MethodName) prog_1_method_24_code (3 : Nat) (Option.none : Option FieldType)) ∈ lw_tbl := qt_tables_1_4 (List.mem_of_getElem? (i := 97) rfl)
theorem q_818 : (Cond.methodLink "ContainerKit" (189 : Nat) ({ cls := "ContainerKit$Walk", name := "standAt", desc := "(I)V" } : MethodName)) ∈ lw_tbl := qt_tables_1_4 (List.mem_of_getElem? (i := 98) rfl)
theorem q_819 : (Cond.methodLink "ContainerKitLaw" (191 : Nat) ({ cls := "ContainerKitLaw", name := "assign", desc := "(LContainerKit;II[J)I" } : MethodName)) ∈ lw_tbl := qt_tables_1_4 (List.mem_of_getElem? (i := 99) rfl)
theorem q_820 : (Cond.static ({ cls := "ContainerKitLaw", name := "assign", desc := "(LContainerKit;II[J)I" } : MethodName)) ∈ lw_tbl := qt_tables_1_4 (List.mem_of_getElem? (i := 100) rfl)
theorem q_821 : (Cond.codeWith ({ cls := "ContainerKitLaw", name := "assign", desc := "(LContainerKit;II[J)I" } : MethodName) method_26_code (5 : Nat) (Option.some FieldType.int) [((0 : Nat), (10 : Nat), (13 : Nat), (21 : Nat)), ((0 : Nat), (10 : Nat), (17 : Nat), (13 : Nat)), ((0 : Nat), (10 : Nat), (21 : Nat), (25 : Nat))]) ∈ lw_tbl := qt_tables_1_4 (List.mem_of_getElem? (i := 101) rfl)
theorem q_822 : (Cond.methodLink "ContainerKitLaw" (99 : Nat) ({ cls := "ContainerKit", name := "assign", desc := "(II)I" } : MethodName)) ∈ lw_tbl := qt_tables_1_4 (List.mem_of_getElem? (i := 102) rfl)
theorem q_823 : (Cond.instanceMethod ({ cls := "ContainerKit", name := "assign", desc := "(II)I" } : MethodName)) ∈ lw_tbl := qt_tables_1_4 (List.mem_of_getElem? (i := 103) rfl)
theorem q_824 : (Cond.selects "ContainerKit" ({ cls := "ContainerKit", name := "assign", desc := "(II)I" } : MethodName) ({ cls := "ContainerKit", name := "assign", desc := "(II)I" } : MethodName)) ∈ lw_tbl := qt_tables_1_4 (List.mem_of_getElem? (i := 104) rfl)
theorem q_825 : (Cond.code ({ cls := "ContainerKit", name := "assign", desc := "(II)I" } : MethodName) prog_1_method_25_code (5 : Nat) (Option.some FieldType.int)) ∈ lw_tbl := qt_tables_1_4 (List.mem_of_getElem? (i := 105) rfl)
theorem q_826 : (Cond.methodLink "ContainerKit" (192 : Nat) ({ cls := "ContainerKit$Container", name := "changeValue", desc := "(II)I" } : MethodName)) ∈ lw_tbl := qt_tables_1_4 (List.mem_of_getElem? (i := 106) rfl)
theorem q_827 : (Cond.instanceMethod ({ cls := "ContainerKit$Container", name := "changeValue", desc := "(II)I" } : MethodName)) ∈ lw_tbl := qt_tables_1_4 (List.mem_of_getElem? (i := 107) rfl)
theorem q_828 : (Cond.sameMethod "ContainerKit$Container" "ContainerKit$Container" "changeValue" "(II)I") ∈ lw_tbl := qt_tables_1_4 (List.mem_of_getElem? (i := 108) rfl)
theorem q_829 : (Cond.selects "ContainerKit$Part" ({ cls := "ContainerKit$Container", name := "changeValue", desc := "(II)I" } : MethodName) ({ cls := "ContainerKit$Container", name := "changeValue", desc := "(II)I" } : MethodName)) ∈ lw_tbl := qt_tables_1_4 (List.mem_of_getElem? (i := 109) rfl)
theorem q_830 : (Cond.selects "ContainerKit$Range" ({ cls := "ContainerKit$Container", name := "changeValue", desc := "(II)I" } : MethodName) ({ cls := "ContainerKit$Container", name := "changeValue", desc := "(II)I" } : MethodName)) ∈ lw_tbl := qt_tables_1_4 (List.mem_of_getElem? (i := 110) rfl)
theorem q_831 : (Cond.selects "ContainerKit$Whole" ({ cls := "ContainerKit$Container", name := "changeValue", desc := "(II)I" } : MethodName) ({ cls := "ContainerKit$Container", name := "changeValue", desc := "(II)I" } : MethodName)) ∈ lw_tbl := qt_tables_1_4 (List.mem_of_getElem? (i := 111) rfl)
theorem q_832 : (Cond.code ({ cls := "ContainerKit$Container", name := "changeValue", desc := "(II)I" } : MethodName) prog_2_method_17_code (4 : Nat) (Option.some FieldType.int)) ∈ lw_tbl := qt_tables_1_4 (List.mem_of_getElem? (i := 112) rfl)
theorem q_833 : (Cond.methodLink "ContainerKit$Container" (68 : Nat) ({ cls := "ContainerKit$Store", name := "setValue", desc := "(II)V" } : MethodName)) ∈ lw_tbl := qt_tables_1_4 (List.mem_of_getElem? (i := 113) rfl)
theorem q_834 : (Cond.methodLink "ContainerKitLaw" (194 : Nat) ({ cls := "ContainerKitLaw", name := "plant", desc := "(LContainerKit;II)I" } : MethodName)) ∈ lw_tbl := qt_tables_1_4 (List.mem_of_getElem? (i := 114) rfl)
theorem q_835 : (Cond.static ({ cls := "ContainerKitLaw", name := "plant", desc := "(LContainerKit;II)I" } : MethodName)) ∈ lw_tbl := qt_tables_1_4 (List.mem_of_getElem? (i := 115) rfl)
theorem q_836 : (Cond.codeWith ({ cls := "ContainerKitLaw", name := "plant", desc := "(LContainerKit;II)I" } : MethodName) method_27_code (4 : Nat) (Option.some FieldType.int) [((0 : Nat), (6 : Nat), (9 : Nat), (21 : Nat)), ((0 : Nat), (6 : Nat), (12 : Nat), (23 : Nat)), ((0 : Nat), (6 : Nat), (15 : Nat), (15 : Nat)), ((0 : Nat), (6 : Nat), (18 : Nat), (25 : Nat))]) ∈ lw_tbl := qt_tables_1_4 (List.mem_of_getElem? (i := 116) rfl)
theorem q_837 : (Cond.methodLink "ContainerKitLaw" (102 : Nat) ({ cls := "ContainerKit", name := "plant", desc := "(II)V" } : MethodName)) ∈ lw_tbl := qt_tables_1_4 (List.mem_of_getElem? (i := 117) rfl)
theorem q_838 : (Cond.instanceMethod ({ cls := "ContainerKit", name := "plant", desc := "(II)V" } : MethodName)) ∈ lw_tbl := qt_tables_1_4 (List.mem_of_getElem? (i := 118) rfl)
theorem q_839 : (Cond.selects "ContainerKit" ({ cls := "ContainerKit", name := "plant", desc := "(II)V" } : MethodName) ({ cls := "ContainerKit", name := "plant", desc := "(II)V" } : MethodName)) ∈ lw_tbl := qt_tables_1_4 (List.mem_of_getElem? (i := 119) rfl)
theorem q_840 : (Cond.code ({ cls := "ContainerKit", name := "plant", desc := "(II)V" } : MethodName) prog_1_method_26_code (5 : Nat) (Option.none : Option FieldType)) ∈ lw_tbl := qt_tables_1_4 (List.mem_of_getElem? (i := 120) rfl)
theorem q_841 : (Cond.classLink "ContainerKitLaw" (106 : Nat) "ContainerKitModel") ∈ lw_tbl := qt_tables_1_4 (List.mem_of_getElem? (i := 121) rfl)
theorem q_842 : (Cond.instantiable "ContainerKitModel" (17 : Nat)) ∈ lw_tbl := qt_tables_1_4 (List.mem_of_getElem? (i := 122) rfl)
theorem q_843 : (Cond.methodLink "ContainerKitLaw" (108 : Nat) ({ cls := "ContainerKitModel", name := "<init>", desc := "()V" } : MethodName)) ∈ lw_tbl := qt_tables_1_4 (List.mem_of_getElem? (i := 123) rfl)
theorem q_844 : (Cond.instanceMethod ({ cls := "ContainerKitModel", name := "<init>", desc := "()V" } : MethodName)) ∈ lw_tbl := qt_tables_1_4 (List.mem_of_getElem? (i := 124) rfl)
theorem q_845 : (Cond.code ({ cls := "ContainerKitModel", name := "<init>", desc := "()V" } : MethodName) prog_9_method_1_code (1 : Nat) (Option.none : Option FieldType)) ∈ lw_tbl := qt_tables_1_4 (List.mem_of_getElem? (i := 125) rfl)
theorem q_846 : (Cond.methodLink "ContainerKitModel" (1 : Nat) ({ cls := "java/lang/Object", name := "<init>", desc := "()V" } : MethodName)) ∈ lw_tbl := qt_tables_1_4 (List.mem_of_getElem? (i := 126) rfl)
theorem q_847 : (Cond.fieldLink "ContainerKitModel" (55 : Nat) "ContainerKitModel" "code" "I") ∈ lw_tbl := qt_tables_1_4 (List.mem_of_getElem? (i := 127) rfl)
theorem q_848 : (Cond.fieldLink "ContainerKitModel" (59 : Nat) "ContainerKitModel" "many" "I") ∈ lw_tbl := qt_tables_1_4 (List.mem_of_getElem? (i := 128) rfl)
theorem q_849 : (Cond.fieldLink "ContainerKitModel" (7 : Nat) "ContainerKitModel" "kind" "[I") ∈ lw_tbl := qt_tables_1_4 (List.mem_of_getElem? (i := 129) rfl)
theorem q_850 : (Cond.fieldLink "ContainerKitModel" (13 : Nat) "ContainerKitModel" "of" "[I") ∈ lw_tbl := qt_tables_1_4 (List.mem_of_getElem? (i := 130) rfl)
theorem q_851 : (Cond.fieldLink "ContainerKitModel" (16 : Nat) "ContainerKitModel" "base" "[I") ∈ lw_tbl := qt_tables_1_4 (List.mem_of_getElem? (i := 131) rfl)
theorem q_852 : (Cond.fieldLink "ContainerKitModel" (19 : Nat) "ContainerKitModel" "number" "[I") ∈ lw_tbl := qt_tables_1_4 (List.mem_of_getElem? (i := 132) rfl)
theorem q_853 : (Cond.fieldLink "ContainerKitModel" (22 : Nat) "ContainerKitModel" "value" "[I") ∈ lw_tbl := qt_tables_1_4 (List.mem_of_getElem? (i := 133) rfl)
theorem q_854 : (Cond.fieldLink "ContainerKitModel" (25 : Nat) "ContainerKitModel" "count" "[I") ∈ lw_tbl := qt_tables_1_4 (List.mem_of_getElem? (i := 134) rfl)
theorem q_855 : (Cond.fieldLink "ContainerKitModel" (28 : Nat) "ContainerKitModel" "changes" "[I") ∈ lw_tbl := qt_tables_1_4 (List.mem_of_getElem? (i := 135) rfl)
theorem q_856 : (Cond.fieldLink "ContainerKitModel" (31 : Nat) "ContainerKitModel" "room" "[I") ∈ lw_tbl := qt_tables_1_4 (List.mem_of_getElem? (i := 136) rfl)
theorem q_857 : (Cond.fieldLink "ContainerKitModel" (34 : Nat) "ContainerKitModel" "first" "[I") ∈ lw_tbl := qt_tables_1_4 (List.mem_of_getElem? (i := 137) rfl)
theorem q_858 : (Cond.fieldLink "ContainerKitModel" (37 : Nat) "ContainerKitModel" "length" "[I") ∈ lw_tbl := qt_tables_1_4 (List.mem_of_getElem? (i := 138) rfl)
theorem q_859 : (Cond.fieldLink "ContainerKitModel" (40 : Nat) "ContainerKitModel" "seen" "[I") ∈ lw_tbl := qt_tables_1_4 (List.mem_of_getElem? (i := 139) rfl)
theorem q_860 : (Cond.fieldLink "ContainerKitModel" (43 : Nat) "ContainerKitModel" "over" "[I") ∈ lw_tbl := qt_tables_1_4 (List.mem_of_getElem? (i := 140) rfl)
theorem q_861 : (Cond.fieldLink "ContainerKitModel" (46 : Nat) "ContainerKitModel" "place" "[I") ∈ lw_tbl := qt_tables_1_4 (List.mem_of_getElem? (i := 141) rfl)
theorem q_862 : (Cond.fieldLink "ContainerKitModel" (49 : Nat) "ContainerKitModel" "latest" "[I") ∈ lw_tbl := qt_tables_1_4 (List.mem_of_getElem? (i := 142) rfl)
theorem q_863 : (Cond.fieldLink "ContainerKitModel" (52 : Nat) "ContainerKitModel" "known" "[I") ∈ lw_tbl := qt_tables_1_4 (List.mem_of_getElem? (i := 143) rfl)
theorem q_864 : (Cond.lays "ContainerKitModel" "ContainerKitModel" "code" "I") ∈ lw_tbl := qt_tables_1_4 (List.mem_of_getElem? (i := 144) rfl)
theorem q_865 : (Cond.soleField "ContainerKitModel" "code") ∈ lw_tbl := qt_tables_1_4 (List.mem_of_getElem? (i := 145) rfl)
theorem q_866 : (Cond.lays "ContainerKitModel" "ContainerKitModel" "many" "I") ∈ lw_tbl := qt_tables_1_4 (List.mem_of_getElem? (i := 146) rfl)
theorem q_867 : (Cond.soleField "ContainerKitModel" "many") ∈ lw_tbl := qt_tables_1_4 (List.mem_of_getElem? (i := 147) rfl)
theorem q_868 : (Cond.laysFinal "ContainerKitModel" "ContainerKitModel" "kind" "[I") ∈ lw_tbl := qt_tables_1_4 (List.mem_of_getElem? (i := 148) rfl)
theorem q_869 : (Cond.soleField "ContainerKitModel" "kind") ∈ lw_tbl := qt_tables_1_4 (List.mem_of_getElem? (i := 149) rfl)
theorem q_870 : (Cond.laysFinal "ContainerKitModel" "ContainerKitModel" "of" "[I") ∈ lw_tbl := qt_tables_1_4 (List.mem_of_getElem? (i := 150) rfl)
theorem q_871 : (Cond.soleField "ContainerKitModel" "of") ∈ lw_tbl := qt_tables_1_4 (List.mem_of_getElem? (i := 151) rfl)
theorem q_872 : (Cond.laysFinal "ContainerKitModel" "ContainerKitModel" "base" "[I") ∈ lw_tbl := qt_tables_1_4 (List.mem_of_getElem? (i := 152) rfl)
theorem q_873 : (Cond.soleField "ContainerKitModel" "base") ∈ lw_tbl := qt_tables_1_4 (List.mem_of_getElem? (i := 153) rfl)
theorem q_874 : (Cond.laysFinal "ContainerKitModel" "ContainerKitModel" "number" "[I") ∈ lw_tbl := qt_tables_1_4 (List.mem_of_getElem? (i := 154) rfl)
theorem q_875 : (Cond.soleField "ContainerKitModel" "number") ∈ lw_tbl := qt_tables_1_4 (List.mem_of_getElem? (i := 155) rfl)
theorem q_876 : (Cond.laysFinal "ContainerKitModel" "ContainerKitModel" "value" "[I") ∈ lw_tbl := qt_tables_1_4 (List.mem_of_getElem? (i := 156) rfl)
theorem q_877 : (Cond.soleField "ContainerKitModel" "value") ∈ lw_tbl := qt_tables_1_4 (List.mem_of_getElem? (i := 157) rfl)
theorem q_878 : (Cond.laysFinal "ContainerKitModel" "ContainerKitModel" "count" "[I") ∈ lw_tbl := qt_tables_1_4 (List.mem_of_getElem? (i := 158) rfl)
theorem q_879 : (Cond.soleField "ContainerKitModel" "count") ∈ lw_tbl := qt_tables_1_4 (List.mem_of_getElem? (i := 159) rfl)
theorem q_880 : (Cond.laysFinal "ContainerKitModel" "ContainerKitModel" "changes" "[I") ∈ lw_tbl := qt_tables_1_4 (List.mem_of_getElem? (i := 160) rfl)
theorem q_881 : (Cond.soleField "ContainerKitModel" "changes") ∈ lw_tbl := qt_tables_1_4 (List.mem_of_getElem? (i := 161) rfl)
theorem q_882 : (Cond.laysFinal "ContainerKitModel" "ContainerKitModel" "room" "[I") ∈ lw_tbl := qt_tables_1_4 (List.mem_of_getElem? (i := 162) rfl)
theorem q_883 : (Cond.soleField "ContainerKitModel" "room") ∈ lw_tbl := qt_tables_1_4 (List.mem_of_getElem? (i := 163) rfl)
theorem q_884 : (Cond.laysFinal "ContainerKitModel" "ContainerKitModel" "first" "[I") ∈ lw_tbl := qt_tables_1_4 (List.mem_of_getElem? (i := 164) rfl)
theorem q_885 : (Cond.soleField "ContainerKitModel" "first") ∈ lw_tbl := qt_tables_1_4 (List.mem_of_getElem? (i := 165) rfl)
theorem q_886 : (Cond.laysFinal "ContainerKitModel" "ContainerKitModel" "length" "[I") ∈ lw_tbl := qt_tables_1_4 (List.mem_of_getElem? (i := 166) rfl)
theorem q_887 : (Cond.soleField "ContainerKitModel" "length") ∈ lw_tbl := qt_tables_1_4 (List.mem_of_getElem? (i := 167) rfl)
theorem q_888 : (Cond.laysFinal "ContainerKitModel" "ContainerKitModel" "seen" "[I") ∈ lw_tbl := qt_tables_1_4 (List.mem_of_getElem? (i := 168) rfl)
theorem q_889 : (Cond.soleField "ContainerKitModel" "seen") ∈ lw_tbl := qt_tables_1_4 (List.mem_of_getElem? (i := 169) rfl)
theorem q_890 : (Cond.laysFinal "ContainerKitModel" "ContainerKitModel" "over" "[I") ∈ lw_tbl := qt_tables_1_4 (List.mem_of_getElem? (i := 170) rfl)
theorem q_891 : (Cond.soleField "ContainerKitModel" "over") ∈ lw_tbl := qt_tables_1_4 (List.mem_of_getElem? (i := 171) rfl)
theorem q_892 : (Cond.laysFinal "ContainerKitModel" "ContainerKitModel" "place" "[I") ∈ lw_tbl := qt_tables_1_4 (List.mem_of_getElem? (i := 172) rfl)
theorem q_893 : (Cond.soleField "ContainerKitModel" "place") ∈ lw_tbl := qt_tables_1_4 (List.mem_of_getElem? (i := 173) rfl)
theorem q_894 : (Cond.laysFinal "ContainerKitModel" "ContainerKitModel" "latest" "[I") ∈ lw_tbl := qt_tables_1_4 (List.mem_of_getElem? (i := 174) rfl)
theorem q_895 : (Cond.soleField "ContainerKitModel" "latest") ∈ lw_tbl := qt_tables_1_4 (List.mem_of_getElem? (i := 175) rfl)
theorem q_896 : (Cond.laysFinal "ContainerKitModel" "ContainerKitModel" "known" "[I") ∈ lw_tbl := qt_tables_1_4 (List.mem_of_getElem? (i := 176) rfl)
theorem q_897 : (Cond.soleField "ContainerKitModel" "known") ∈ lw_tbl := qt_tables_1_4 (List.mem_of_getElem? (i := 177) rfl)
theorem q_898 : (Cond.superclass "ContainerKitModel" "java/lang/Object") ∈ lw_tbl := qt_tables_1_4 (List.mem_of_getElem? (i := 178) rfl)
theorem q_899 : (Cond.methodLink "ContainerKitLaw" (115 : Nat) ({ cls := "ContainerKitModel", name := "thrown", desc := "()I" } : MethodName)) ∈ lw_tbl := qt_tables_1_4 (List.mem_of_getElem? (i := 179) rfl)
theorem q_900 : (Cond.instanceMethod ({ cls := "ContainerKitModel", name := "thrown", desc := "()I" } : MethodName)) ∈ lw_tbl := qt_tables_1_4 (List.mem_of_getElem? (i := 180) rfl)
theorem q_901 : (Cond.selects "ContainerKitModel" ({ cls := "ContainerKitModel", name := "thrown", desc := "()I" } : MethodName) ({ cls := "ContainerKitModel", name := "thrown", desc := "()I" } : MethodName)) ∈ lw_tbl := qt_tables_1_4 (List.mem_of_getElem? (i := 181) rfl)
theorem q_902 : (Cond.code ({ cls := "ContainerKitModel", name := "thrown", desc := "()I" } : MethodName) prog_9_method_2_code (1 : Nat) (Option.some FieldType.int)) ∈ lw_tbl := qt_tables_1_4 (List.mem_of_getElem? (i := 182) rfl)
theorem q_903 : (Cond.methodLink "ContainerKitLaw" (114 : Nat) ({ cls := "ContainerKitModel", name := "create", desc := "(I)I" } : MethodName)) ∈ lw_tbl := qt_tables_1_4 (List.mem_of_getElem? (i := 183) rfl)
theorem q_904 : (Cond.instanceMethod ({ cls := "ContainerKitModel", name := "create", desc := "(I)I" } : MethodName)) ∈ lw_tbl := qt_tables_1_4 (List.mem_of_getElem? (i := 184) rfl)
theorem q_905 : (Cond.selects "ContainerKitModel" ({ cls := "ContainerKitModel", name := "create", desc := "(I)I" } : MethodName) ({ cls := "ContainerKitModel", name := "create", desc := "(I)I" } : MethodName)) ∈ lw_tbl := qt_tables_1_4 (List.mem_of_getElem? (i := 185) rfl)
theorem q_906 : (Cond.code ({ cls := "ContainerKitModel", name := "create", desc := "(I)I" } : MethodName) prog_9_method_11_code (2 : Nat) (Option.some FieldType.int)) ∈ lw_tbl := qt_tables_1_4 (List.mem_of_getElem? (i := 186) rfl)
theorem q_907 : (Cond.methodLink "ContainerKitModel" (66 : Nat) ({ cls := "ContainerKitModel", name := "make", desc := "(II)I" } : MethodName)) ∈ lw_tbl := qt_tables_1_4 (List.mem_of_getElem? (i := 187) rfl)
theorem q_908 : (Cond.privateMethod ({ cls := "ContainerKitModel", name := "make", desc := "(II)I" } : MethodName)) ∈ lw_tbl := qt_tables_1_4 (List.mem_of_getElem? (i := 188) rfl)
theorem q_909 : (Cond.instanceMethod ({ cls := "ContainerKitModel", name := "make", desc := "(II)I" } : MethodName)) ∈ lw_tbl := qt_tables_1_4 (List.mem_of_getElem? (i := 189) rfl)
theorem q_910 : (Cond.code ({ cls := "ContainerKitModel", name := "make", desc := "(II)I" } : MethodName) prog_9_method_10_code (4 : Nat) (Option.some FieldType.int)) ∈ lw_tbl := qt_tables_1_4 (List.mem_of_getElem? (i := 190) rfl)
theorem q_911 : (Cond.methodLink "ContainerKitLaw" (122 : Nat) ({ cls := "ContainerKitModel", name := "view", desc := "(III)I" } : MethodName)) ∈ lw_tbl := qt_tables_1_4 (List.mem_of_getElem? (i := 191) rfl)
theorem q_912 : (Cond.instanceMethod ({ cls := "ContainerKitModel", name := "view", desc := "(III)I" } : MethodName)) ∈ lw_tbl := qt_tables_1_4 (List.mem_of_getElem? (i := 192) rfl)
theorem q_913 : (Cond.selects "ContainerKitModel" ({ cls := "ContainerKitModel", name := "view", desc := "(III)I" } : MethodName) ({ cls := "ContainerKitModel", name := "view", desc := "(III)I" } : MethodName)) ∈ lw_tbl := qt_tables_1_4 (List.mem_of_getElem? (i := 193) rfl)
theorem q_914 : (Cond.code ({ cls := "ContainerKitModel", name := "view", desc := "(III)I" } : MethodName) prog_9_method_12_code (8 : Nat) (Option.some FieldType.int)) ∈ lw_tbl := qt_tables_1_4 (List.mem_of_getElem? (i := 194) rfl)
theorem q_915 : (Cond.methodLink "ContainerKitModel" (70 : Nat) ({ cls := "ContainerKitModel", name := "isThere", desc := "(I)Z" } : MethodName)) ∈ lw_tbl := qt_tables_1_4 (List.mem_of_getElem? (i := 195) rfl)
theorem q_916 : (Cond.privateMethod ({ cls := "ContainerKitModel", name := "isThere", desc := "(I)Z" } : MethodName)) ∈ lw_tbl := qt_tables_1_4 (List.mem_of_getElem? (i := 196) rfl)
theorem q_917 : (Cond.instanceMethod ({ cls := "ContainerKitModel", name := "isThere", desc := "(I)Z" } : MethodName)) ∈ lw_tbl := qt_tables_1_4 (List.mem_of_getElem? (i := 197) rfl)
theorem q_918 : (Cond.code ({ cls := "ContainerKitModel", name := "isThere", desc := "(I)Z" } : MethodName) prog_9_method_4_code (2 : Nat) (Option.some FieldType.boolean)) ∈ lw_tbl := qt_tables_1_4 (List.mem_of_getElem? (i := 198) rfl)
theorem q_919 : (Cond.methodLink "ContainerKitModel" (62 : Nat) ({ cls := "ContainerKitModel", name := "isList", desc := "(I)Z" } : MethodName)) ∈ lw_tbl := qt_tables_1_4 (List.mem_of_getElem? (i := 199) rfl)
theorem q_920 : (Cond.privateMethod ({ cls := "ContainerKitModel", name := "isList", desc := "(I)Z" } : MethodName)) ∈ lw_tbl := qt_tables_1_4 (List.mem_of_getElem? (i := 200) rfl)
theorem q_921 : (Cond.instanceMethod ({ cls := "ContainerKitModel", name := "isList", desc := "(I)Z" } : MethodName)) ∈ lw_tbl := qt_tables_1_4 (List.mem_of_getElem? (i := 201) rfl)
theorem q_922 : (Cond.code ({ cls := "ContainerKitModel", name := "isList", desc := "(I)Z" } : MethodName) prog_9_method_5_code (2 : Nat) (Option.some FieldType.boolean)) ∈ lw_tbl := qt_tables_1_4 (List.mem_of_getElem? (i := 202) rfl)
theorem q_923 : (Cond.methodLink "ContainerKitModel" (73 : Nat) ({ cls := "ContainerKitModel", name := "isTree", desc := "(I)Z" } : MethodName)) ∈ lw_tbl := qt_tables_1_4 (List.mem_of_getElem? (i := 203) rfl)
theorem q_924 : (Cond.privateMethod ({ cls := "ContainerKitModel", name := "isTree", desc := "(I)Z" } : MethodName)) ∈ lw_tbl := qt_tables_1_4 (List.mem_of_getElem? (i := 204) rfl)
theorem q_925 : (Cond.instanceMethod ({ cls := "ContainerKitModel", name := "isTree", desc := "(I)Z" } : MethodName)) ∈ lw_tbl := qt_tables_1_4 (List.mem_of_getElem? (i := 205) rfl)
theorem q_926 : (Cond.code ({ cls := "ContainerKitModel", name := "isTree", desc := "(I)Z" } : MethodName) prog_9_method_7_code (2 : Nat) (Option.some FieldType.boolean)) ∈ lw_tbl := qt_tables_1_4 (List.mem_of_getElem? (i := 206) rfl)
theorem q_927 : (Cond.methodLink "ContainerKitModel" (76 : Nat) ({ cls := "ContainerKitModel", name := "isStale", desc := "(I)Z" } : MethodName)) ∈ lw_tbl := qt_tables_1_4 (List.mem_of_getElem? (i := 207) rfl)
theorem q_928 : (Cond.privateMethod ({ cls := "ContainerKitModel", name := "isStale", desc := "(I)Z" } : MethodName)) ∈ lw_tbl := qt_tables_1_4 (List.mem_of_getElem? (i := 208) rfl)
theorem q_929 : (Cond.instanceMethod ({ cls := "ContainerKitModel", name := "isStale", desc := "(I)Z" } : MethodName)) ∈ lw_tbl := qt_tables_1_4 (List.mem_of_getElem? (i := 209) rfl)
theorem q_930 : (Cond.code ({ cls := "ContainerKitModel", name := "isStale", desc := "(I)Z" } : MethodName) prog_9_method_9_code (4 : Nat) (Option.some FieldType.boolean)) ∈ lw_tbl := qt_tables_1_4 (List.mem_of_getElem? (i := 210) rfl)
theorem q_931 : (Cond.methodLink "ContainerKitModel" (79 : Nat) ({ cls := "ContainerKitModel", name := "sizeOf", desc := "(I)I" } : MethodName)) ∈ lw_tbl := qt_tables_1_4 (List.mem_of_getElem? (i := 211) rfl)
theorem q_932 : (Cond.privateMethod ({ cls := "ContainerKitModel", name := "sizeOf", desc := "(I)I" } : MethodName)) ∈ lw_tbl := qt_tables_1_4 (List.mem_of_getElem? (i := 212) rfl)
theorem q_933 : (Cond.instanceMethod ({ cls := "ContainerKitModel", name := "sizeOf", desc := "(I)I" } : MethodName)) ∈ lw_tbl := qt_tables_1_4 (List.mem_of_getElem? (i := 213) rfl)
theorem q_934 : (Cond.code ({ cls := "ContainerKitModel", name := "sizeOf", desc := "(I)I" } : MethodName) prog_9_method_16_code (4 : Nat) (Option.some FieldType.int)) ∈ lw_tbl := qt_tables_1_4 (List.mem_of_getElem? (i := 214) rfl)
theorem q_935 : (Cond.methodLink "ContainerKitModel" (86 : Nat) ({ cls := "ContainerKitModel", name := "isIn", desc := "(II)Z" } : MethodName)) ∈ lw_tbl := qt_tables_1_4 (List.mem_of_getElem? (i := 215) rfl)
theorem q_936 : (Cond.privateMethod ({ cls := "ContainerKitModel", name := "isIn", desc := "(II)Z" } : MethodName)) ∈ lw_tbl := qt_tables_1_4 (List.mem_of_getElem? (i := 216) rfl)
theorem q_937 : (Cond.instanceMethod ({ cls := "ContainerKitModel", name := "isIn", desc := "(II)Z" } : MethodName)) ∈ lw_tbl := qt_tables_1_4 (List.mem_of_getElem? (i := 217) rfl)
theorem q_938 : (Cond.code ({ cls := "ContainerKitModel", name := "isIn", desc := "(II)Z" } : MethodName) prog_9_method_14_code (3 : Nat) (Option.some FieldType.boolean)) ∈ lw_tbl := qt_tables_1_4 (List.mem_of_getElem? (i := 218) rfl)
theorem q_939 : (Cond.methodLink "ContainerKitModel" (83 : Nat) ({ cls := "ContainerKitModel", name := "placeIn", desc := "(I)I" } : MethodName)) ∈ lw_tbl := qt_tables_1_4 (List.mem_of_getElem? (i := 219) rfl)
theorem q_940 : (Cond.privateMethod ({ cls := "ContainerKitModel", name := "placeIn", desc := "(I)I" } : MethodName)) ∈ lw_tbl := qt_tables_1_4 (List.mem_of_getElem? (i := 220) rfl)
theorem q_941 : (Cond.instanceMethod ({ cls := "ContainerKitModel", name := "placeIn", desc := "(I)I" } : MethodName)) ∈ lw_tbl := qt_tables_1_4 (List.mem_of_getElem? (i := 221) rfl)
theorem q_942 : (Cond.code ({ cls := "ContainerKitModel", name := "placeIn", desc := "(I)I" } : MethodName) prog_9_method_15_code (3 : Nat) (Option.some FieldType.int)) ∈ lw_tbl := qt_tables_1_4 (List.mem_of_getElem? (i := 222) rfl)
theorem q_943 : (Cond.methodLink "ContainerKitLaw" (125 : Nat) ({ cls := "ContainerKitModel", name := "kind", desc := "(I)I" } : MethodName)) ∈ lw_tbl := qt_tables_1_4 (List.mem_of_getElem? (i := 223) rfl)
theorem q_944 : (Cond.instanceMethod ({ cls := "ContainerKitModel", name := "kind", desc := "(I)I" } : MethodName)) ∈ lw_tbl := qt_tables_1_4 (List.mem_of_getElem? (i := 224) rfl)
theorem q_945 : (Cond.selects "ContainerKitModel" ({ cls := "ContainerKitModel", name := "kind", desc := "(I)I" } : MethodName) ({ cls := "ContainerKitModel", name := "kind", desc := "(I)I" } : MethodName)) ∈ lw_tbl := qt_tables_1_4 (List.mem_of_getElem? (i := 225) rfl)
theorem q_946 : (Cond.code ({ cls := "ContainerKitModel", name := "kind", desc := "(I)I" } : MethodName) prog_9_method_13_code (2 : Nat) (Option.some FieldType.int)) ∈ lw_tbl := qt_tables_1_4 (List.mem_of_getElem? (i := 226) rfl)
theorem q_947 : (Cond.methodLink "ContainerKitLaw" (128 : Nat) ({ cls := "ContainerKitModel", name := "size", desc := "(I)I" } : MethodName)) ∈ lw_tbl := qt_tables_1_4 (List.mem_of_getElem? (i := 227) rfl)
theorem q_948 : (Cond.instanceMethod ({ cls := "ContainerKitModel", name := "size", desc := "(I)I" } : MethodName)) ∈ lw_tbl := qt_tables_1_4 (List.mem_of_getElem? (i := 228) rfl)
theorem q_949 : (Cond.selects "ContainerKitModel" ({ cls := "ContainerKitModel", name := "size", desc := "(I)I" } : MethodName) ({ cls := "ContainerKitModel", name := "size", desc := "(I)I" } : MethodName)) ∈ lw_tbl := qt_tables_1_4 (List.mem_of_getElem? (i := 229) rfl)
theorem q_950 : (Cond.code ({ cls := "ContainerKitModel", name := "size", desc := "(I)I" } : MethodName) prog_9_method_17_code (2 : Nat) (Option.some FieldType.int)) ∈ lw_tbl := qt_tables_1_4 (List.mem_of_getElem? (i := 230) rfl)
theorem q_951 : (Cond.methodLink "ContainerKitLaw" (132 : Nat) ({ cls := "ContainerKitModel", name := "get", desc := "(II)I" } : MethodName)) ∈ lw_tbl := qt_tables_1_4 (List.mem_of_getElem? (i := 231) rfl)
theorem q_952 : (Cond.instanceMethod ({ cls := "ContainerKitModel", name := "get", desc := "(II)I" } : MethodName)) ∈ lw_tbl := qt_tables_1_4 (List.mem_of_getElem? (i := 232) rfl)
theorem q_953 : (Cond.selects "ContainerKitModel" ({ cls := "ContainerKitModel", name := "get", desc := "(II)I" } : MethodName) ({ cls := "ContainerKitModel", name := "get", desc := "(II)I" } : MethodName)) ∈ lw_tbl := qt_tables_1_4 (List.mem_of_getElem? (i := 233) rfl)
theorem q_954 : (Cond.code ({ cls := "ContainerKitModel", name := "get", desc := "(II)I" } : MethodName) prog_9_method_23_code (3 : Nat) (Option.some FieldType.int)) ∈ lw_tbl := qt_tables_1_4 (List.mem_of_getElem? (i := 234) rfl)
theorem q_955 : (Cond.methodLink "ContainerKitModel" (94 : Nat) ({ cls := "ContainerKitModel", name := "checkList", desc := "(II)I" } : MethodName)) ∈ lw_tbl := qt_tables_1_4 (List.mem_of_getElem? (i := 235) rfl)
theorem q_956 : (Cond.privateMethod ({ cls := "ContainerKitModel", name := "checkList", desc := "(II)I" } : MethodName)) ∈ lw_tbl := qt_tables_1_4 (List.mem_of_getElem? (i := 236) rfl)
theorem q_957 : (Cond.instanceMethod ({ cls := "ContainerKitModel", name := "checkList", desc := "(II)I" } : MethodName)) ∈ lw_tbl := qt_tables_1_4 (List.mem_of_getElem? (i := 237) rfl)
theorem q_958 : (Cond.code ({ cls := "ContainerKitModel", name := "checkList", desc := "(II)I" } : MethodName) prog_9_method_22_code (3 : Nat) (Option.some FieldType.int)) ∈ lw_tbl := qt_tables_1_4 (List.mem_of_getElem? (i := 238) rfl)
theorem q_959 : (Cond.methodLink "ContainerKitModel" (97 : Nat) ({ cls := "ContainerKitModel", name := "at", desc := "(II)I" } : MethodName)) ∈ lw_tbl := qt_tables_1_4 (List.mem_of_getElem? (i := 239) rfl)
theorem q_960 : (Cond.privateMethod ({ cls := "ContainerKitModel", name := "at", desc := "(II)I" } : MethodName)) ∈ lw_tbl := qt_tables_1_5 (List.mem_of_getElem? (i := 0) rfl)
theorem q_961 : (Cond.instanceMethod ({ cls := "ContainerKitModel", name := "at", desc := "(II)I" } : MethodName)) ∈ lw_tbl := qt_tables_1_5 (List.mem_of_getElem? (i := 1) rfl)
theorem q_962 : (Cond.code ({ cls := "ContainerKitModel", name := "at", desc := "(II)I" } : MethodName) prog_9_method_18_code (3 : Nat) (Option.some FieldType.int)) ∈ lw_tbl := qt_tables_1_5 (List.mem_of_getElem? (i := 2) rfl)
theorem q_963 : (Cond.methodLink "ContainerKitLaw" (135 : Nat) ({ cls := "ContainerKitModel", name := "set", desc := "(III)I" } : MethodName)) ∈ lw_tbl := qt_tables_1_5 (List.mem_of_getElem? (i := 3) rfl)
theorem q_964 : (Cond.instanceMethod ({ cls := "ContainerKitModel", name := "set", desc := "(III)I" } : MethodName)) ∈ lw_tbl := qt_tables_1_5 (List.mem_of_getElem? (i := 4) rfl)
theorem q_965 : (Cond.selects "ContainerKitModel" ({ cls := "ContainerKitModel", name := "set", desc := "(III)I" } : MethodName) ({ cls := "ContainerKitModel", name := "set", desc := "(III)I" } : MethodName)) ∈ lw_tbl := qt_tables_1_5 (List.mem_of_getElem? (i := 5) rfl)
theorem q_966 : (Cond.code ({ cls := "ContainerKitModel", name := "set", desc := "(III)I" } : MethodName) prog_9_method_24_code (5 : Nat) (Option.some FieldType.int)) ∈ lw_tbl := qt_tables_1_5 (List.mem_of_getElem? (i := 6) rfl)
theorem q_967 : (Cond.methodLink "ContainerKitModel" (100 : Nat) ({ cls := "ContainerKitModel", name := "get", desc := "(II)I" } : MethodName)) ∈ lw_tbl := qt_tables_1_5 (List.mem_of_getElem? (i := 7) rfl)
theorem q_968 : (Cond.methodLink "ContainerKitLaw" (139 : Nat) ({ cls := "ContainerKitModel", name := "insert", desc := "(III)V" } : MethodName)) ∈ lw_tbl := qt_tables_1_5 (List.mem_of_getElem? (i := 8) rfl)
theorem q_969 : (Cond.instanceMethod ({ cls := "ContainerKitModel", name := "insert", desc := "(III)V" } : MethodName)) ∈ lw_tbl := qt_tables_1_5 (List.mem_of_getElem? (i := 9) rfl)
theorem q_970 : (Cond.selects "ContainerKitModel" ({ cls := "ContainerKitModel", name := "insert", desc := "(III)V" } : MethodName) ({ cls := "ContainerKitModel", name := "insert", desc := "(III)V" } : MethodName)) ∈ lw_tbl := qt_tables_1_5 (List.mem_of_getElem? (i := 10) rfl)
theorem q_971 : (Cond.code ({ cls := "ContainerKitModel", name := "insert", desc := "(III)V" } : MethodName) prog_9_method_26_code (5 : Nat) (Option.none : Option FieldType)) ∈ lw_tbl := qt_tables_1_5 (List.mem_of_getElem? (i := 11) rfl)
theorem q_972 : (Cond.methodLink "ContainerKitModel" (103 : Nat) ({ cls := "ContainerKitModel", name := "putIn", desc := "(IIII)V" } : MethodName)) ∈ lw_tbl := qt_tables_1_5 (List.mem_of_getElem? (i := 12) rfl)
theorem q_973 : (Cond.privateMethod ({ cls := "ContainerKitModel", name := "putIn", desc := "(IIII)V" } : MethodName)) ∈ lw_tbl := qt_tables_1_5 (List.mem_of_getElem? (i := 13) rfl)
theorem q_974 : (Cond.instanceMethod ({ cls := "ContainerKitModel", name := "putIn", desc := "(IIII)V" } : MethodName)) ∈ lw_tbl := qt_tables_1_5 (List.mem_of_getElem? (i := 14) rfl)
theorem q_975 : (Cond.code ({ cls := "ContainerKitModel", name := "putIn", desc := "(IIII)V" } : MethodName) prog_9_method_20_code (7 : Nat) (Option.none : Option FieldType)) ∈ lw_tbl := qt_tables_1_5 (List.mem_of_getElem? (i := 15) rfl)
theorem q_976 : (Cond.methodLink "ContainerKitModel" (90 : Nat) ({ cls := "ContainerKitModel", name := "changed", desc := "(II)V" } : MethodName)) ∈ lw_tbl := qt_tables_1_5 (List.mem_of_getElem? (i := 16) rfl)
theorem q_977 : (Cond.privateMethod ({ cls := "ContainerKitModel", name := "changed", desc := "(II)V" } : MethodName)) ∈ lw_tbl := qt_tables_1_5 (List.mem_of_getElem? (i := 17) rfl)
theorem q_978 : (Cond.instanceMethod ({ cls := "ContainerKitModel", name := "changed", desc := "(II)V" } : MethodName)) ∈ lw_tbl := qt_tables_1_5 (List.mem_of_getElem? (i := 18) rfl)
theorem q_979 : (Cond.code ({ cls := "ContainerKitModel", name := "changed", desc := "(II)V" } : MethodName) prog_9_method_19_code (5 : Nat) (Option.none : Option FieldType)) ∈ lw_tbl := qt_tables_1_5 (List.mem_of_getElem? (i := 19) rfl)
theorem q_980 : (Cond.methodLink "ContainerKitModel" (107 : Nat) ({ cls := "ContainerKitModel", name := "insertAt", desc := "(III)V" } : MethodName)) ∈ lw_tbl := qt_tables_1_5 (List.mem_of_getElem? (i := 20) rfl)
theorem q_981 : (Cond.privateMethod ({ cls := "ContainerKitModel", name := "insertAt", desc := "(III)V" } : MethodName)) ∈ lw_tbl := qt_tables_1_5 (List.mem_of_getElem? (i := 21) rfl)
theorem q_982 : (Cond.instanceMethod ({ cls := "ContainerKitModel", name := "insertAt", desc := "(III)V" } : MethodName)) ∈ lw_tbl := qt_tables_1_5 (List.mem_of_getElem? (i := 22) rfl)
theorem q_983 : (Cond.code ({ cls := "ContainerKitModel", name := "insertAt", desc := "(III)V" } : MethodName) prog_9_method_25_code (5 : Nat) (Option.none : Option FieldType)) ∈ lw_tbl := qt_tables_1_5 (List.mem_of_getElem? (i := 23) rfl)
theorem q_984 : (Cond.methodLink "ContainerKitLaw" (142 : Nat) ({ cls := "ContainerKitModel", name := "remove", desc := "(II)I" } : MethodName)) ∈ lw_tbl := qt_tables_1_5 (List.mem_of_getElem? (i := 24) rfl)
theorem q_985 : (Cond.instanceMethod ({ cls := "ContainerKitModel", name := "remove", desc := "(II)I" } : MethodName)) ∈ lw_tbl := qt_tables_1_5 (List.mem_of_getElem? (i := 25) rfl)
theorem q_986 : (Cond.selects "ContainerKitModel" ({ cls := "ContainerKitModel", name := "remove", desc := "(II)I" } : MethodName) ({ cls := "ContainerKitModel", name := "remove", desc := "(II)I" } : MethodName)) ∈ lw_tbl := qt_tables_1_5 (List.mem_of_getElem? (i := 26) rfl)
theorem q_987 : (Cond.code ({ cls := "ContainerKitModel", name := "remove", desc := "(II)I" } : MethodName) prog_9_method_27_code (6 : Nat) (Option.some FieldType.int)) ∈ lw_tbl := qt_tables_1_5 (List.mem_of_getElem? (i := 27) rfl)
theorem q_988 : (Cond.methodLink "ContainerKitModel" (111 : Nat) ({ cls := "ContainerKitModel", name := "takeOut", desc := "(II)V" } : MethodName)) ∈ lw_tbl := qt_tables_1_5 (List.mem_of_getElem? (i := 28) rfl)
theorem q_989 : (Cond.privateMethod ({ cls := "ContainerKitModel", name := "takeOut", desc := "(II)V" } : MethodName)) ∈ lw_tbl := qt_tables_1_5 (List.mem_of_getElem? (i := 29) rfl)
theorem q_990 : (Cond.instanceMethod ({ cls := "ContainerKitModel", name := "takeOut", desc := "(II)V" } : MethodName)) ∈ lw_tbl := qt_tables_1_5 (List.mem_of_getElem? (i := 30) rfl)
theorem q_991 : (Cond.code ({ cls := "ContainerKitModel", name := "takeOut", desc := "(II)V" } : MethodName) prog_9_method_21_code (5 : Nat) (Option.none : Option FieldType)) ∈ lw_tbl := qt_tables_1_5 (List.mem_of_getElem? (i := 31) rfl)
theorem q_992 : (Cond.methodLink "ContainerKitLaw" (146 : Nat) ({ cls := "ContainerKitModel", name := "sort", desc := "(II)V" } : MethodName)) ∈ lw_tbl := qt_tables_1_5 (List.mem_of_getElem? (i := 32) rfl)
theorem q_993 : (Cond.instanceMethod ({ cls := "ContainerKitModel", name := "sort", desc := "(II)V" } : MethodName)) ∈ lw_tbl := qt_tables_1_5 (List.mem_of_getElem? (i := 33) rfl)
theorem q_994 : (Cond.selects "ContainerKitModel" ({ cls := "ContainerKitModel", name := "sort", desc := "(II)V" } : MethodName) ({ cls := "ContainerKitModel", name := "sort", desc := "(II)V" } : MethodName)) ∈ lw_tbl := qt_tables_1_5 (List.mem_of_getElem? (i := 34) rfl)
theorem q_995 : (Cond.code ({ cls := "ContainerKitModel", name := "sort", desc := "(II)V" } : MethodName) prog_9_method_30_code (7 : Nat) (Option.none : Option FieldType)) ∈ lw_tbl := qt_tables_1_5 (List.mem_of_getElem? (i := 35) rfl)
theorem q_996 : (Cond.methodLink "ContainerKitModel" (117 : Nat) ({ cls := "ContainerKitModel", name := "isBefore", desc := "(III)Z" } : MethodName)) ∈ lw_tbl := qt_tables_1_5 (List.mem_of_getElem? (i := 36) rfl)
theorem q_997 : (Cond.static ({ cls := "ContainerKitModel", name := "isBefore", desc := "(III)Z" } : MethodName)) ∈ lw_tbl := qt_tables_1_5 (List.mem_of_getElem? (i := 37) rfl)
theorem q_998 : (Cond.code ({ cls := "ContainerKitModel", name := "isBefore", desc := "(III)Z" } : MethodName) prog_9_method_29_code (3 : Nat) (Option.some FieldType.boolean)) ∈ lw_tbl := qt_tables_1_5 (List.mem_of_getElem? (i := 38) rfl)
theorem q_999 : (Cond.methodLink "ContainerKitModel" (114 : Nat) ({ cls := "ContainerKitModel", name := "modulo", desc := "(II)I" } : MethodName)) ∈ lw_tbl := qt_tables_1_5 (List.mem_of_getElem? (i := 39) rfl)
theorem q_1000 : (Cond.static ({ cls := "ContainerKitModel", name := "modulo", desc := "(II)I" } : MethodName)) ∈ lw_tbl := qt_tables_1_5 (List.mem_of_getElem? (i := 40) rfl)
theorem q_1001 : (Cond.code ({ cls := "ContainerKitModel", name := "modulo", desc := "(II)I" } : MethodName) prog_9_method_28_code (3 : Nat) (Option.some FieldType.int)) ∈ lw_tbl := qt_tables_1_5 (List.mem_of_getElem? (i := 41) rfl)
theorem q_1002 : (Cond.methodLink "ContainerKitLaw" (149 : Nat) ({ cls := "ContainerKitModel", name := "put", desc := "(III)Z" } : MethodName)) ∈ lw_tbl := qt_tables_1_5 (List.mem_of_getElem? (i := 42) rfl)
theorem q_1003 : (Cond.instanceMethod ({ cls := "ContainerKitModel", name := "put", desc := "(III)Z" } : MethodName)) ∈ lw_tbl := qt_tables_1_5 (List.mem_of_getElem? (i := 43) rfl)
theorem q_1004 : (Cond.selects "ContainerKitModel" ({ cls := "ContainerKitModel", name := "put", desc := "(III)Z" } : MethodName) ({ cls := "ContainerKitModel", name := "put", desc := "(III)Z" } : MethodName)) ∈ lw_tbl := qt_tables_1_5 (List.mem_of_getElem? (i := 44) rfl)
theorem q_1005 : (Cond.code ({ cls := "ContainerKitModel", name := "put", desc := "(III)Z" } : MethodName) prog_9_method_36_code (5 : Nat) (Option.some FieldType.boolean)) ∈ lw_tbl := qt_tables_1_5 (List.mem_of_getElem? (i := 45) rfl)
theorem q_1006 : (Cond.methodLink "ContainerKitModel" (133 : Nat) ({ cls := "ContainerKitModel", name := "lookUp", desc := "(II)I" } : MethodName)) ∈ lw_tbl := qt_tables_1_5 (List.mem_of_getElem? (i := 46) rfl)
theorem q_1007 : (Cond.privateMethod ({ cls := "ContainerKitModel", name := "lookUp", desc := "(II)I" } : MethodName)) ∈ lw_tbl := qt_tables_1_5 (List.mem_of_getElem? (i := 47) rfl)
theorem q_1008 : (Cond.instanceMethod ({ cls := "ContainerKitModel", name := "lookUp", desc := "(II)I" } : MethodName)) ∈ lw_tbl := qt_tables_1_5 (List.mem_of_getElem? (i := 48) rfl)
theorem q_1009 : (Cond.code ({ cls := "ContainerKitModel", name := "lookUp", desc := "(II)I" } : MethodName) prog_9_method_35_code (4 : Nat) (Option.some FieldType.int)) ∈ lw_tbl := qt_tables_1_5 (List.mem_of_getElem? (i := 49) rfl)
theorem q_1010 : (Cond.methodLink "ContainerKitModel" (127 : Nat) ({ cls := "ContainerKitModel", name := "checkMap", desc := "(I)I" } : MethodName)) ∈ lw_tbl := qt_tables_1_5 (List.mem_of_getElem? (i := 50) rfl)
theorem q_1011 : (Cond.privateMethod ({ cls := "ContainerKitModel", name := "checkMap", desc := "(I)I" } : MethodName)) ∈ lw_tbl := qt_tables_1_5 (List.mem_of_getElem? (i := 51) rfl)
theorem q_1012 : (Cond.instanceMethod ({ cls := "ContainerKitModel", name := "checkMap", desc := "(I)I" } : MethodName)) ∈ lw_tbl := qt_tables_1_5 (List.mem_of_getElem? (i := 52) rfl)
theorem q_1013 : (Cond.code ({ cls := "ContainerKitModel", name := "checkMap", desc := "(I)I" } : MethodName) prog_9_method_31_code (2 : Nat) (Option.some FieldType.int)) ∈ lw_tbl := qt_tables_1_5 (List.mem_of_getElem? (i := 53) rfl)
theorem q_1014 : (Cond.methodLink "ContainerKitModel" (121 : Nat) ({ cls := "ContainerKitModel", name := "isMap", desc := "(I)Z" } : MethodName)) ∈ lw_tbl := qt_tables_1_5 (List.mem_of_getElem? (i := 54) rfl)
theorem q_1015 : (Cond.privateMethod ({ cls := "ContainerKitModel", name := "isMap", desc := "(I)Z" } : MethodName)) ∈ lw_tbl := qt_tables_1_5 (List.mem_of_getElem? (i := 55) rfl)
theorem q_1016 : (Cond.instanceMethod ({ cls := "ContainerKitModel", name := "isMap", desc := "(I)Z" } : MethodName)) ∈ lw_tbl := qt_tables_1_5 (List.mem_of_getElem? (i := 56) rfl)
theorem q_1017 : (Cond.code ({ cls := "ContainerKitModel", name := "isMap", desc := "(I)Z" } : MethodName) prog_9_method_6_code (2 : Nat) (Option.some FieldType.boolean)) ∈ lw_tbl := qt_tables_1_5 (List.mem_of_getElem? (i := 57) rfl)
theorem q_1018 : (Cond.methodLink "ContainerKitModel" (130 : Nat) ({ cls := "ContainerKitModel", name := "find", desc := "(II)I" } : MethodName)) ∈ lw_tbl := qt_tables_1_5 (List.mem_of_getElem? (i := 58) rfl)
theorem q_1019 : (Cond.privateMethod ({ cls := "ContainerKitModel", name := "find", desc := "(II)I" } : MethodName)) ∈ lw_tbl := qt_tables_1_5 (List.mem_of_getElem? (i := 59) rfl)
theorem q_1020 : (Cond.instanceMethod ({ cls := "ContainerKitModel", name := "find", desc := "(II)I" } : MethodName)) ∈ lw_tbl := qt_tables_1_5 (List.mem_of_getElem? (i := 60) rfl)
theorem q_1021 : (Cond.code ({ cls := "ContainerKitModel", name := "find", desc := "(II)I" } : MethodName) prog_9_method_32_code (5 : Nat) (Option.some FieldType.int)) ∈ lw_tbl := qt_tables_1_5 (List.mem_of_getElem? (i := 61) rfl)
theorem q_1022 : (Cond.methodLink "ContainerKitModel" (136 : Nat) ({ cls := "ContainerKitModel", name := "add", desc := "(III)V" } : MethodName)) ∈ lw_tbl := qt_tables_1_5 (List.mem_of_getElem? (i := 62) rfl)
theorem q_1023 : (Cond.privateMethod ({ cls := "ContainerKitModel", name := "add", desc := "(III)V" } : MethodName)) ∈ lw_tbl := qt_tables_1_5 (List.mem_of_getElem? (i := 63) rfl)
theorem q_1024 : (Cond.instanceMethod ({ cls := "ContainerKitModel", name := "add", desc := "(III)V" } : MethodName)) ∈ lw_tbl := qt_tables_1_5 (List.mem_of_getElem? (i := 64) rfl)
theorem q_1025 : (Cond.code ({ cls := "ContainerKitModel", name := "add", desc := "(III)V" } : MethodName) prog_9_method_34_code (6 : Nat) (Option.none : Option FieldType)) ∈ lw_tbl := qt_tables_1_5 (List.mem_of_getElem? (i := 65) rfl)
theorem q_1026 : (Cond.methodLink "ContainerKitModel" (124 : Nat) ({ cls := "ContainerKitModel", name := "hashes", desc := "(I)Z" } : MethodName)) ∈ lw_tbl := qt_tables_1_5 (List.mem_of_getElem? (i := 66) rfl)
theorem q_1027 : (Cond.privateMethod ({ cls := "ContainerKitModel", name := "hashes", desc := "(I)Z" } : MethodName)) ∈ lw_tbl := qt_tables_1_5 (List.mem_of_getElem? (i := 67) rfl)
theorem q_1028 : (Cond.instanceMethod ({ cls := "ContainerKitModel", name := "hashes", desc := "(I)Z" } : MethodName)) ∈ lw_tbl := qt_tables_1_5 (List.mem_of_getElem? (i := 68) rfl)
theorem q_1029 : (Cond.code ({ cls := "ContainerKitModel", name := "hashes", desc := "(I)Z" } : MethodName) prog_9_method_8_code (2 : Nat) (Option.some FieldType.boolean)) ∈ lw_tbl := qt_tables_1_5 (List.mem_of_getElem? (i := 69) rfl)
theorem q_1030 : (Cond.methodLink "ContainerKitModel" (139 : Nat) ({ cls := "ContainerKitModel", name := "freshen", desc := "(II)V" } : MethodName)) ∈ lw_tbl := qt_tables_1_5 (List.mem_of_getElem? (i := 70) rfl)
theorem q_1031 : (Cond.privateMethod ({ cls := "ContainerKitModel", name := "freshen", desc := "(II)V" } : MethodName)) ∈ lw_tbl := qt_tables_1_5 (List.mem_of_getElem? (i := 71) rfl)
theorem q_1032 : (Cond.instanceMethod ({ cls := "ContainerKitModel", name := "freshen", desc := "(II)V" } : MethodName)) ∈ lw_tbl := qt_tables_1_5 (List.mem_of_getElem? (i := 72) rfl)
theorem q_1033 : (Cond.code ({ cls := "ContainerKitModel", name := "freshen", desc := "(II)V" } : MethodName) prog_9_method_33_code (6 : Nat) (Option.none : Option FieldType)) ∈ lw_tbl := qt_tables_1_5 (List.mem_of_getElem? (i := 73) rfl)
theorem q_1034 : (Cond.methodLink "ContainerKitLaw" (152 : Nat) ({ cls := "ContainerKitModel", name := "merge", desc := "(III)I" } : MethodName)) ∈ lw_tbl := qt_tables_1_5 (List.mem_of_getElem? (i := 74) rfl)
theorem q_1035 : (Cond.instanceMethod ({ cls := "ContainerKitModel", name := "merge", desc := "(III)I" } : MethodName)) ∈ lw_tbl := qt_tables_1_5 (List.mem_of_getElem? (i := 75) rfl)
theorem q_1036 : (Cond.selects "ContainerKitModel" ({ cls := "ContainerKitModel", name := "merge", desc := "(III)I" } : MethodName) ({ cls := "ContainerKitModel", name := "merge", desc := "(III)I" } : MethodName)) ∈ lw_tbl := qt_tables_1_5 (List.mem_of_getElem? (i := 76) rfl)
theorem q_1037 : (Cond.code ({ cls := "ContainerKitModel", name := "merge", desc := "(III)I" } : MethodName) prog_9_method_37_code (6 : Nat) (Option.some FieldType.int)) ∈ lw_tbl := qt_tables_1_5 (List.mem_of_getElem? (i := 77) rfl)
theorem q_1038 : (Cond.methodLink "ContainerKitLaw" (155 : Nat) ({ cls := "ContainerKitModel", name := "has", desc := "(II)Z" } : MethodName)) ∈ lw_tbl := qt_tables_1_5 (List.mem_of_getElem? (i := 78) rfl)
theorem q_1039 : (Cond.instanceMethod ({ cls := "ContainerKitModel", name := "has", desc := "(II)Z" } : MethodName)) ∈ lw_tbl := qt_tables_1_5 (List.mem_of_getElem? (i := 79) rfl)
theorem q_1040 : (Cond.selects "ContainerKitModel" ({ cls := "ContainerKitModel", name := "has", desc := "(II)Z" } : MethodName) ({ cls := "ContainerKitModel", name := "has", desc := "(II)Z" } : MethodName)) ∈ lw_tbl := qt_tables_1_5 (List.mem_of_getElem? (i := 80) rfl)
theorem q_1041 : (Cond.code ({ cls := "ContainerKitModel", name := "has", desc := "(II)Z" } : MethodName) prog_9_method_38_code (3 : Nat) (Option.some FieldType.boolean)) ∈ lw_tbl := qt_tables_1_5 (List.mem_of_getElem? (i := 81) rfl)
theorem q_1042 : (Cond.methodLink "ContainerKitLaw" (158 : Nat) ({ cls := "ContainerKitModel", name := "value", desc := "(II)I" } : MethodName)) ∈ lw_tbl := qt_tables_1_5 (List.mem_of_getElem? (i := 82) rfl)
theorem q_1043 : (Cond.instanceMethod ({ cls := "ContainerKitModel", name := "value", desc := "(II)I" } : MethodName)) ∈ lw_tbl := qt_tables_1_5 (List.mem_of_getElem? (i := 83) rfl)
theorem q_1044 : (Cond.selects "ContainerKitModel" ({ cls := "ContainerKitModel", name := "value", desc := "(II)I" } : MethodName) ({ cls := "ContainerKitModel", name := "value", desc := "(II)I" } : MethodName)) ∈ lw_tbl := qt_tables_1_5 (List.mem_of_getElem? (i := 84) rfl)
theorem q_1045 : (Cond.code ({ cls := "ContainerKitModel", name := "value", desc := "(II)I" } : MethodName) prog_9_method_39_code (5 : Nat) (Option.some FieldType.int)) ∈ lw_tbl := qt_tables_1_5 (List.mem_of_getElem? (i := 85) rfl)
theorem q_1046 : (Cond.methodLink "ContainerKitModel" (142 : Nat) ({ cls := "ContainerKitModel", name := "fail", desc := "(I)I" } : MethodName)) ∈ lw_tbl := qt_tables_1_5 (List.mem_of_getElem? (i := 86) rfl)
theorem q_1047 : (Cond.privateMethod ({ cls := "ContainerKitModel", name := "fail", desc := "(I)I" } : MethodName)) ∈ lw_tbl := qt_tables_1_5 (List.mem_of_getElem? (i := 87) rfl)
theorem q_1048 : (Cond.instanceMethod ({ cls := "ContainerKitModel", name := "fail", desc := "(I)I" } : MethodName)) ∈ lw_tbl := qt_tables_1_5 (List.mem_of_getElem? (i := 88) rfl)
theorem q_1049 : (Cond.code ({ cls := "ContainerKitModel", name := "fail", desc := "(I)I" } : MethodName) prog_9_method_3_code (2 : Nat) (Option.some FieldType.int)) ∈ lw_tbl := qt_tables_1_5 (List.mem_of_getElem? (i := 89) rfl)
theorem q_1050 : (Cond.methodLink "ContainerKitLaw" (161 : Nat) ({ cls := "ContainerKitModel", name := "drop", desc := "(II)I" } : MethodName)) ∈ lw_tbl := qt_tables_1_5 (List.mem_of_getElem? (i := 90) rfl)
theorem q_1051 : (Cond.instanceMethod ({ cls := "ContainerKitModel", name := "drop", desc := "(II)I" } : MethodName)) ∈ lw_tbl := qt_tables_1_5 (List.mem_of_getElem? (i := 91) rfl)
theorem q_1052 : (Cond.selects "ContainerKitModel" ({ cls := "ContainerKitModel", name := "drop", desc := "(II)I" } : MethodName) ({ cls := "ContainerKitModel", name := "drop", desc := "(II)I" } : MethodName)) ∈ lw_tbl := qt_tables_1_5 (List.mem_of_getElem? (i := 92) rfl)
theorem q_1053 : (Cond.code ({ cls := "ContainerKitModel", name := "drop", desc := "(II)I" } : MethodName) prog_9_method_40_code (5 : Nat) (Option.some FieldType.int)) ∈ lw_tbl := qt_tables_1_5 (List.mem_of_getElem? (i := 93) rfl)
theorem q_1054 : (Cond.methodLink "ContainerKitLaw" (164 : Nat) ({ cls := "ContainerKitModel", name := "near", desc := "(III)I" } : MethodName)) ∈ lw_tbl := qt_tables_1_5 (List.mem_of_getElem? (i := 94) rfl)
theorem q_1055 : (Cond.instanceMethod ({ cls := "ContainerKitModel", name := "near", desc := "(III)I" } : MethodName)) ∈ lw_tbl := qt_tables_1_5 (List.mem_of_getElem? (i := 95) rfl)
theorem q_1056 : (Cond.selects "ContainerKitModel" ({ cls := "ContainerKitModel", name := "near", desc := "(III)I" } : MethodName) ({ cls := "ContainerKitModel", name := "near", desc := "(III)I" } : MethodName)) ∈ lw_tbl := qt_tables_1_5 (List.mem_of_getElem? (i := 96) rfl)
theorem q_1057 : (Cond.code ({ cls := "ContainerKitModel", name := "near", desc := "(III)I" } : MethodName) prog_9_method_42_code (6 : Nat) (Option.some FieldType.int)) ∈ lw_tbl := qt_tables_1_5 (List.mem_of_getElem? (i := 97) rfl)
theorem q_1058 : (Cond.methodLink "ContainerKitModel" (145 : Nat) ({ cls := "ContainerKitModel", name := "fits", desc := "(III)Z" } : MethodName)) ∈ lw_tbl := qt_tables_1_5 (List.mem_of_getElem? (i := 98) rfl)
theorem q_1059 : (Cond.static ({ cls := "ContainerKitModel", name := "fits", desc := "(III)Z" } : MethodName)) ∈ lw_tbl := qt_tables_1_5 (List.mem_of_getElem? (i := 99) rfl)
theorem q_1060 : (Cond.code ({ cls := "ContainerKitModel", name := "fits", desc := "(III)Z" } : MethodName) prog_9_method_41_code (3 : Nat) (Option.some FieldType.boolean)) ∈ lw_tbl := qt_tables_1_5 (List.mem_of_getElem? (i := 100) rfl)
theorem q_1061 : (Cond.methodLink "ContainerKitLaw" (167 : Nat) ({ cls := "ContainerKitModel", name := "room", desc := "(I)I" } : MethodName)) ∈ lw_tbl := qt_tables_1_5 (List.mem_of_getElem? (i := 101) rfl)
theorem q_1062 : (Cond.instanceMethod ({ cls := "ContainerKitModel", name := "room", desc := "(I)I" } : MethodName)) ∈ lw_tbl := qt_tables_1_5 (List.mem_of_getElem? (i := 102) rfl)
theorem q_1063 : (Cond.selects "ContainerKitModel" ({ cls := "ContainerKitModel", name := "room", desc := "(I)I" } : MethodName) ({ cls := "ContainerKitModel", name := "room", desc := "(I)I" } : MethodName)) ∈ lw_tbl := qt_tables_1_5 (List.mem_of_getElem? (i := 103) rfl)
theorem q_1064 : (Cond.code ({ cls := "ContainerKitModel", name := "room", desc := "(I)I" } : MethodName) prog_9_method_43_code (2 : Nat) (Option.some FieldType.int)) ∈ lw_tbl := qt_tables_1_5 (List.mem_of_getElem? (i := 104) rfl)
theorem q_1065 : (Cond.methodLink "ContainerKitLaw" (170 : Nat) ({ cls := "ContainerKitModel", name := "bucket", desc := "(II)I" } : MethodName)) ∈ lw_tbl := qt_tables_1_5 (List.mem_of_getElem? (i := 105) rfl)
theorem q_1066 : (Cond.instanceMethod ({ cls := "ContainerKitModel", name := "bucket", desc := "(II)I" } : MethodName)) ∈ lw_tbl := qt_tables_1_5 (List.mem_of_getElem? (i := 106) rfl)
theorem q_1067 : (Cond.selects "ContainerKitModel" ({ cls := "ContainerKitModel", name := "bucket", desc := "(II)I" } : MethodName) ({ cls := "ContainerKitModel", name := "bucket", desc := "(II)I" } : MethodName)) ∈ lw_tbl := qt_tables_1_5 (List.mem_of_getElem? (i := 107) rfl)
theorem q_1068 : (Cond.code ({ cls := "ContainerKitModel", name := "bucket", desc := "(II)I" } : MethodName) prog_9_method_45_code (5 : Nat) (Option.some FieldType.int)) ∈ lw_tbl := qt_tables_1_5 (List.mem_of_getElem? (i := 108) rfl)
theorem q_1069 : (Cond.methodLink "ContainerKitModel" (148 : Nat) ({ cls := "ContainerKitModel", name := "spread", desc := "(I)I" } : MethodName)) ∈ lw_tbl := qt_tables_1_5 (List.mem_of_getElem? (i := 109) rfl)
theorem q_1070 : (Cond.static ({ cls := "ContainerKitModel", name := "spread", desc := "(I)I" } : MethodName)) ∈ lw_tbl := qt_tables_1_5 (List.mem_of_getElem? (i := 110) rfl)
theorem q_1071 : (Cond.code ({ cls := "ContainerKitModel", name := "spread", desc := "(I)I" } : MethodName) prog_9_method_44_code (1 : Nat) (Option.some FieldType.int)) ∈ lw_tbl := qt_tables_1_5 (List.mem_of_getElem? (i := 111) rfl)
theorem q_1072 : (Cond.methodLink "ContainerKitLaw" (173 : Nat) ({ cls := "ContainerKitModel", name := "sift", desc := "(III)I" } : MethodName)) ∈ lw_tbl := qt_tables_1_5 (List.mem_of_getElem? (i := 112) rfl)
theorem q_1073 : (Cond.instanceMethod ({ cls := "ContainerKitModel", name := "sift", desc := "(III)I" } : MethodName)) ∈ lw_tbl := qt_tables_1_5 (List.mem_of_getElem? (i := 113) rfl)
theorem q_1074 : (Cond.selects "ContainerKitModel" ({ cls := "ContainerKitModel", name := "sift", desc := "(III)I" } : MethodName) ({ cls := "ContainerKitModel", name := "sift", desc := "(III)I" } : MethodName)) ∈ lw_tbl := qt_tables_1_5 (List.mem_of_getElem? (i := 114) rfl)
theorem q_1075 : (Cond.code ({ cls := "ContainerKitModel", name := "sift", desc := "(III)I" } : MethodName) prog_9_method_46_code (6 : Nat) (Option.some FieldType.int)) ∈ lw_tbl := qt_tables_1_5 (List.mem_of_getElem? (i := 115) rfl)
theorem q_1076 : (Cond.methodLink "ContainerKitLaw" (176 : Nat) ({ cls := "ContainerKitModel", name := "same", desc := "(II)Z" } : MethodName)) ∈ lw_tbl := qt_tables_1_5 (List.mem_of_getElem? (i := 116) rfl)
theorem q_1077 : (Cond.instanceMethod ({ cls := "ContainerKitModel", name := "same", desc := "(II)Z" } : MethodName)) ∈ lw_tbl := qt_tables_1_5 (List.mem_of_getElem? (i := 117) rfl)
theorem q_1078 : (Cond.selects "ContainerKitModel" ({ cls := "ContainerKitModel", name := "same", desc := "(II)Z" } : MethodName) ({ cls := "ContainerKitModel", name := "same", desc := "(II)Z" } : MethodName)) ∈ lw_tbl := qt_tables_1_5 (List.mem_of_getElem? (i := 118) rfl)
theorem q_1079 : (Cond.code ({ cls := "ContainerKitModel", name := "same", desc := "(II)Z" } : MethodName) prog_9_method_47_code (8 : Nat) (Option.some FieldType.boolean)) ∈ lw_tbl := qt_tables_1_5 (List.mem_of_getElem? (i := 119) rfl)
theorem q_1080 : (Cond.methodLink "ContainerKitLaw" (179 : Nat) ({ cls := "ContainerKitModel", name := "open", desc := "(II)V" } : MethodName)) ∈ lw_tbl := qt_tables_1_5 (List.mem_of_getElem? (i := 120) rfl)
theorem q_1081 : (Cond.instanceMethod ({ cls := "ContainerKitModel", name := "open", desc := "(II)V" } : MethodName)) ∈ lw_tbl := qt_tables_1_5 (List.mem_of_getElem? (i := 121) rfl)
theorem q_1082 : (Cond.selects "ContainerKitModel" ({ cls := "ContainerKitModel", name := "open", desc := "(II)V" } : MethodName) ({ cls := "ContainerKitModel", name := "open", desc := "(II)V" } : MethodName)) ∈ lw_tbl := qt_tables_1_5 (List.mem_of_getElem? (i := 122) rfl)
theorem q_1083 : (Cond.code ({ cls := "ContainerKitModel", name := "open", desc := "(II)V" } : MethodName) prog_9_method_48_code (3 : Nat) (Option.none : Option FieldType)) ∈ lw_tbl := qt_tables_1_5 (List.mem_of_getElem? (i := 123) rfl)
theorem q_1084 : (Cond.methodLink "ContainerKitLaw" (183 : Nat) ({ cls := "ContainerKitModel", name := "next", desc := "(IZ)I" } : MethodName)) ∈ lw_tbl := qt_tables_1_5 (List.mem_of_getElem? (i := 124) rfl)
theorem q_1085 : (Cond.instanceMethod ({ cls := "ContainerKitModel", name := "next", desc := "(IZ)I" } : MethodName)) ∈ lw_tbl := qt_tables_1_5 (List.mem_of_getElem? (i := 125) rfl)
theorem q_1086 : (Cond.selects "ContainerKitModel" ({ cls := "ContainerKitModel", name := "next", desc := "(IZ)I" } : MethodName) ({ cls := "ContainerKitModel", name := "next", desc := "(IZ)I" } : MethodName)) ∈ lw_tbl := qt_tables_1_5 (List.mem_of_getElem? (i := 126) rfl)
theorem q_1087 : (Cond.code ({ cls := "ContainerKitModel", name := "next", desc := "(IZ)I" } : MethodName) prog_9_method_51_code (5 : Nat) (Option.some FieldType.int)) ∈ lw_tbl := qt_tables_1_5 (List.mem_of_getElem? (i := 127) rfl)
theorem q_1088 : (Cond.methodLink "ContainerKitModel" (151 : Nat) ({ cls := "ContainerKitModel", name := "isOpen", desc := "(I)Z" } : MethodName)) ∈ lw_tbl := qt_tables_1_5 (List.mem_of_getElem? (i := 128) rfl)
theorem q_1089 : (Cond.privateMethod ({ cls := "ContainerKitModel", name := "isOpen", desc := "(I)Z" } : MethodName)) ∈ lw_tbl := qt_tables_1_5 (List.mem_of_getElem? (i := 129) rfl)
theorem q_1090 : (Cond.instanceMethod ({ cls := "ContainerKitModel", name := "isOpen", desc := "(I)Z" } : MethodName)) ∈ lw_tbl := qt_tables_1_5 (List.mem_of_getElem? (i := 130) rfl)
theorem q_1091 : (Cond.code ({ cls := "ContainerKitModel", name := "isOpen", desc := "(I)Z" } : MethodName) prog_9_method_49_code (2 : Nat) (Option.some FieldType.boolean)) ∈ lw_tbl := qt_tables_1_5 (List.mem_of_getElem? (i := 131) rfl)
theorem q_1092 : (Cond.methodLink "ContainerKitModel" (154 : Nat) ({ cls := "ContainerKitModel", name := "isLost", desc := "(I)Z" } : MethodName)) ∈ lw_tbl := qt_tables_1_5 (List.mem_of_getElem? (i := 132) rfl)
theorem q_1093 : (Cond.privateMethod ({ cls := "ContainerKitModel", name := "isLost", desc := "(I)Z" } : MethodName)) ∈ lw_tbl := qt_tables_1_5 (List.mem_of_getElem? (i := 133) rfl)
theorem q_1094 : (Cond.instanceMethod ({ cls := "ContainerKitModel", name := "isLost", desc := "(I)Z" } : MethodName)) ∈ lw_tbl := qt_tables_1_5 (List.mem_of_getElem? (i := 134) rfl)
theorem q_1095 : (Cond.code ({ cls := "ContainerKitModel", name := "isLost", desc := "(I)Z" } : MethodName) prog_9_method_50_code (2 : Nat) (Option.some FieldType.boolean)) ∈ lw_tbl := qt_tables_1_5 (List.mem_of_getElem? (i := 135) rfl)
theorem q_1096 : (Cond.methodLink "ContainerKitLaw" (186 : Nat) ({ cls := "ContainerKitModel", name := "left", desc := "(I)I" } : MethodName)) ∈ lw_tbl := qt_tables_1_5 (List.mem_of_getElem? (i := 136) rfl)
theorem q_1097 : (Cond.instanceMethod ({ cls := "ContainerKitModel", name := "left", desc := "(I)I" } : MethodName)) ∈ lw_tbl := qt_tables_1_5 (List.mem_of_getElem? (i := 137) rfl)
theorem q_1098 : (Cond.selects "ContainerKitModel" ({ cls := "ContainerKitModel", name := "left", desc := "(I)I" } : MethodName) ({ cls := "ContainerKitModel", name := "left", desc := "(I)I" } : MethodName)) ∈ lw_tbl := qt_tables_1_5 (List.mem_of_getElem? (i := 138) rfl)
theorem q_1099 : (Cond.code ({ cls := "ContainerKitModel", name := "left", desc := "(I)I" } : MethodName) prog_9_method_52_code (2 : Nat) (Option.some FieldType.int)) ∈ lw_tbl := qt_tables_1_5 (List.mem_of_getElem? (i := 139) rfl)
theorem q_1100 : (Cond.methodLink "ContainerKitLaw" (190 : Nat) ({ cls := "ContainerKitModel", name := "erase", desc := "(I)V" } : MethodName)) ∈ lw_tbl := qt_tables_1_5 (List.mem_of_getElem? (i := 140) rfl)
theorem q_1101 : (Cond.instanceMethod ({ cls := "ContainerKitModel", name := "erase", desc := "(I)V" } : MethodName)) ∈ lw_tbl := qt_tables_1_5 (List.mem_of_getElem? (i := 141) rfl)
theorem q_1102 : (Cond.selects "ContainerKitModel" ({ cls := "ContainerKitModel", name := "erase", desc := "(I)V" } : MethodName) ({ cls := "ContainerKitModel", name := "erase", desc := "(I)V" } : MethodName)) ∈ lw_tbl := qt_tables_1_5 (List.mem_of_getElem? (i := 142) rfl)
theorem q_1103 : (Cond.code ({ cls := "ContainerKitModel", name := "erase", desc := "(I)V" } : MethodName) prog_9_method_55_code (3 : Nat) (Option.none : Option FieldType)) ∈ lw_tbl := qt_tables_1_5 (List.mem_of_getElem? (i := 143) rfl)
theorem q_1104 : (Cond.methodLink "ContainerKitModel" (157 : Nat) ({ cls := "ContainerKitModel", name := "checkLatest", desc := "(I)I" } : MethodName)) ∈ lw_tbl := qt_tables_1_5 (List.mem_of_getElem? (i := 144) rfl)
theorem q_1105 : (Cond.privateMethod ({ cls := "ContainerKitModel", name := "checkLatest", desc := "(I)I" } : MethodName)) ∈ lw_tbl := qt_tables_1_5 (List.mem_of_getElem? (i := 145) rfl)
theorem q_1106 : (Cond.instanceMethod ({ cls := "ContainerKitModel", name := "checkLatest", desc := "(I)I" } : MethodName)) ∈ lw_tbl := qt_tables_1_5 (List.mem_of_getElem? (i := 146) rfl)
theorem q_1107 : (Cond.code ({ cls := "ContainerKitModel", name := "checkLatest", desc := "(I)I" } : MethodName) prog_9_method_53_code (2 : Nat) (Option.some FieldType.int)) ∈ lw_tbl := qt_tables_1_5 (List.mem_of_getElem? (i := 147) rfl)
theorem q_1108 : (Cond.methodLink "ContainerKitModel" (160 : Nat) ({ cls := "ContainerKitModel", name := "settle", desc := "(II)V" } : MethodName)) ∈ lw_tbl := qt_tables_1_5 (List.mem_of_getElem? (i := 148) rfl)
theorem q_1109 : (Cond.privateMethod ({ cls := "ContainerKitModel", name := "settle", desc := "(II)V" } : MethodName)) ∈ lw_tbl := qt_tables_1_5 (List.mem_of_getElem? (i := 149) rfl)
theorem q_1110 : (Cond.instanceMethod ({ cls := "ContainerKitModel", name := "settle", desc := "(II)V" } : MethodName)) ∈ lw_tbl := qt_tables_1_5 (List.mem_of_getElem? (i := 150) rfl)
theorem q_1111 : (Cond.code ({ cls := "ContainerKitModel", name := "settle", desc := "(II)V" } : MethodName) prog_9_method_54_code (3 : Nat) (Option.none : Option FieldType)) ∈ lw_tbl := qt_tables_1_5 (List.mem_of_getElem? (i := 151) rfl)
theorem q_1112 : (Cond.methodLink "ContainerKitLaw" (193 : Nat) ({ cls := "ContainerKitModel", name := "assign", desc := "(II)I" } : MethodName)) ∈ lw_tbl := qt_tables_1_5 (List.mem_of_getElem? (i := 152) rfl)
theorem q_1113 : (Cond.instanceMethod ({ cls := "ContainerKitModel", name := "assign", desc := "(II)I" } : MethodName)) ∈ lw_tbl := qt_tables_1_5 (List.mem_of_getElem? (i := 153) rfl)
theorem q_1114 : (Cond.selects "ContainerKitModel" ({ cls := "ContainerKitModel", name := "assign", desc := "(II)I" } : MethodName) ({ cls := "ContainerKitModel", name := "assign", desc := "(II)I" } : MethodName)) ∈ lw_tbl := qt_tables_1_5 (List.mem_of_getElem? (i := 154) rfl)
theorem q_1115 : (Cond.code ({ cls := "ContainerKitModel", name := "assign", desc := "(II)I" } : MethodName) prog_9_method_56_code (6 : Nat) (Option.some FieldType.int)) ∈ lw_tbl := qt_tables_1_5 (List.mem_of_getElem? (i := 155) rfl)
theorem q_1116 : (Cond.methodLink "ContainerKitLaw" (196 : Nat) ({ cls := "ContainerKitModel", name := "plant", desc := "(II)V" } : MethodName)) ∈ lw_tbl := qt_tables_1_5 (List.mem_of_getElem? (i := 156) rfl)
theorem q_1117 : (Cond.instanceMethod ({ cls := "ContainerKitModel", name := "plant", desc := "(II)V" } : MethodName)) ∈ lw_tbl := qt_tables_1_5 (List.mem_of_getElem? (i := 157) rfl)
theorem q_1118 : (Cond.selects "ContainerKitModel" ({ cls := "ContainerKitModel", name := "plant", desc := "(II)V" } : MethodName) ({ cls := "ContainerKitModel", name := "plant", desc := "(II)V" } : MethodName)) ∈ lw_tbl := qt_tables_1_5 (List.mem_of_getElem? (i := 158) rfl)
theorem q_1119 : (Cond.code ({ cls := "ContainerKitModel", name := "plant", desc := "(II)V" } : MethodName) prog_9_method_57_code (3 : Nat) (Option.none : Option FieldType)) ∈ lw_tbl := qt_tables_1_5 (List.mem_of_getElem? (i := 159) rfl)
theorem q_1120 : (Cond.arrayClass FieldType.long) ∈ lw_tbl := qt_tables_1_5 (List.mem_of_getElem? (i := 160) rfl)
theorem q_1121 : (Cond.sameMethod "java/lang/Throwable" "java/lang/Throwable" "fillInStackTrace" "(I)Ljava/lang/Throwable;") ∈ lw_tbl := qt_tables_1_5 (List.mem_of_getElem? (i := 161) rfl)
theorem q_1122 : (Cond.castable "java/lang/IllegalArgumentException" "java/lang/RuntimeException") ∈ lw_tbl := qt_tables_1_5 (List.mem_of_getElem? (i := 162) rfl)
theorem q_1123 : (Cond.castable "java/lang/IllegalStateException" "java/lang/RuntimeException") ∈ lw_tbl := qt_tables_1_5 (List.mem_of_getElem? (i := 163) rfl)
theorem q_1124 : (Cond.castable "java/lang/IndexOutOfBoundsException" "java/lang/RuntimeException") ∈ lw_tbl := qt_tables_1_5 (List.mem_of_getElem? (i := 164) rfl)
theorem q_1125 : (Cond.castable "java/lang/UnsupportedOperationException" "java/lang/RuntimeException") ∈ lw_tbl := qt_tables_1_5 (List.mem_of_getElem? (i := 165) rfl)
theorem q_1126 : (Cond.castable "java/util/NoSuchElementException" "java/lang/RuntimeException") ∈ lw_tbl := qt_tables_1_5 (List.mem_of_getElem? (i := 166) rfl)
theorem q_1127 : (Cond.castable "ContainerKit$Range" "ContainerKit$Range") ∈ lw_tbl := qt_tables_1_5 (List.mem_of_getElem? (i := 167) rfl)
theorem q_1128 : (Cond.castable "ContainerKit$Part" "ContainerKit$Part") ∈ lw_tbl := qt_tables_1_5 (List.mem_of_getElem? (i := 168) rfl)
theorem q_1129 : (Cond.castable "ContainerKit$Part" "ContainerKit$Container") ∈ lw_tbl := qt_tables_1_5 (List.mem_of_getElem? (i := 169) rfl)
theorem q_1130 : (Cond.castable "ContainerKit$Range" "ContainerKit$Container") ∈ lw_tbl := qt_tables_1_5 (List.mem_of_getElem? (i := 170) rfl)
theorem q_1131 : (Cond.castable "ContainerKit$Whole" "ContainerKit$Container") ∈ lw_tbl := qt_tables_1_5 (List.mem_of_getElem? (i := 171) rfl)
end
section
/-! PART base: contracts that return or throw, seen from one start z (the law's entry): later tables are warmer than z's, later heaps keep z's cells; what is written lies behind z's heap -/
section YB
def yy_N (z U : State) : Prop := z.WarmedH U.vm ∧ z.heap.size ≤ U.heap.size ∧ ∀ q : Nat, q < z.heap.size → U.heap[q]? = z.heap[q]?
def yy_S (z : State) (H : Heap) (locs : List Loc) : Prop := z.heap.size ≤ H.size ∧ (∀ q : Nat, q < z.heap.size → H[q]? = z.heap[q]?) ∧ ∀ q ∈ locs, z.heap.size ≤ q.base
/-- an outcome: a value, or the name of what is thrown -/
abbrev yy_R : Type := Option Value ⊕ String
def yy_o (st : State) (o : Outcome) (t : State) (r : yy_R) : Prop := match r with
  | .inl v => o = .returned v
  | .inr E => ∃ (q : Addr) (ce : Cell), o = .threw q ∧ t.heap[q]? = some ce ∧ ce.vm = .none ∧ st.vm.findClass E = some ce.cls
def yy_E (z : State) (mc ms : Nat) (Post : yy_R → Heap → Heap → Prop) (s : State) (o : Outcome) (t : State) : Prop :=
  ∃ (r : yy_R) (L : List Loc), yy_o s o t r ∧ Post r s.heap t.heap ∧ s.WarmedH t.vm ∧ s.sameButNew ({ t with vm := s.vm } : State) L mc ms ∧ ∀ q ∈ L, z.heap.size ≤ q.base
/-- method y's contract: its code word alone is asked, all other words come from z -/
def yy_M (l : Launch) (z : State) (y : MethodName) (cd : Cond) (rm : Room) (av : List Value) (Pre : Heap → Prop) (Post : yy_R → Heap → Heap → Prop) : Prop :=
  MetFree l y (headSpec [cd] rm) (fun a s => a = av.toArray ∧ yy_N z s ∧ Pre s.heap) (fun _ _ _ _ _ => True) (fun _ s o t => yy_E z rm.cells rm.slots Post s o t)
theorem yy_N.w {z s : State} {Ts : List Cond} {a0 args : Array Value} (hC : ∀ w ∈ Ts, w.before a0 z = true) (hN : yy_N z s) {w : Cond} (hm : w ∈ Ts) (hg : goodWord w = true) : w.before args s = true := word_at hN.1 (good_of_word hg) (hC w hm)
theorem yy_N.S {z s : State} (hN : yy_N z s) : yy_S z s.heap [] := ⟨hN.2.1, hN.2.2, fun _ h => nomatch h⟩
theorem yy_N.of {z s T : State} {locs : List Loc} (hN : yy_N z s) (hW : s.WarmedH T.vm) (hS : yy_S z T.heap locs) : yy_N z T := ⟨State.WarmedH.trans hN.1 hW, hS.1, hS.2.1⟩
theorem yy_kept {s U : State} {L : List Loc} {k n : Nat} (h : s.sameButNew ({ U with vm := s.vm } : State) L k n) : s.heap.size ≤ U.heap.size ∧ ∀ q : Nat, q < s.heap.size → (∀ x ∈ L, x.base ≠ q) → U.heap[q]? = s.heap[q]? := by
  obtain ⟨-, h2, -, -, -, h6⟩ := h
  refine ⟨h2, fun q hq hz => ?_⟩
  obtain ⟨c9, e1, e2, e3, e4⟩ := h6 q _ (Array.getElem?_eq_getElem hq)
  have hs : c9.slots = (s.heap[q]).slots := Array.ext_getElem? fun i => e4 i fun hm => hz _ hm rfl
  have h9 : c9 = s.heap[q] := by
    rw [hs] at e2
    exact e2
  have e5 : U.heap[q]? = some c9 := e1
  rw [e5, h9, Array.getElem?_eq_getElem hq]
section Inv
variable {l : Launch} {z : State} {y : MethodName} {cd : Cond} {rm : Room} {av : List Value} {Pre : Heap → Prop} {Post : yy_R → Heap → Heap → Prop}
variable {p : Program} {e : Env} {R : Room} {s : State} {m : MethodId} {args : Array Value} {below : List Frame} {meth : Method} {c : Code}
/-- a call of a method with such a contract, from where its frame is pushed -/
theorem yy_inv (hM : yy_M l z y cd rm av Pre Post) {U : State} {Ls : List Loc} {c0 s0 : Nat} (X : Stand p l e R s m args below meth c U Ls c0 s0) {g : JFrame} {ig : Instr} {mk : MethodId} {len maxL : Nat}
    (hg : g.method = m) (hsize : g.locals.size = c.maxLocals) (hdg : decode c.code g.pc = .ok (ig, len)) (hW8 : 2 * g.monitorRoom + (g.stack.map fun v => v.category).sum ≤ 8) (hn : U.methodNamed? y = some mk)
    (hcd : cd.before av.toArray U = true) (hml : ∃ (methY : Method) (cY : Code), U.vm.method? mk = some methY ∧ methY.code = some cY ∧ cY.maxLocals = maxL) (hini : (Cond.initialized y.cls).before av.toArray U = true)
    (hfr : rm.frames + 1 ≤ R.frames) (hlo : 8 + (maxL + 11) + rm.locals ≤ R.locals) (hc : c0 + rm.cells ≤ R.cells) (hs : s0 + rm.slots ≤ R.slots) (hN : yy_N z U) (hP : Pre U.heap) :
    ∃ (r : yy_R) (B : State) (L : List Loc), Stand p l e R s m args below meth c B (Ls ++ L) (c0 + rm.cells) (s0 + rm.slots) ∧ (∀ q ∈ L, z.heap.size ≤ q.base) ∧ Post r U.heap B.heap ∧ B.heap.size = B.heap.size ∧ yy_S z B.heap L ∧
      (match r with
        | .inl v => Steps p.tables e below (doInvoke e (U.setTop g) [] mk av.toArray).1 (B.setTop { g with pc := g.pc + len, stack := v.toList ++ g.stack })
        | .inr E => ∃ (q : Addr) (ce : Cell), B.heap[q]? = some ce ∧ ce.vm = .none ∧ U.vm.findClass E = some ce.cls ∧ Steps p.tables e below (doInvoke e (U.setTop g) [] mk av.toArray).1 ((B.setTop g).pushFrame (.throwing q))) := by
  have hA : At U g.method c below := by rw [hg]; exact X.here
  obtain ⟨methY, cY, hmY, hcY, hlY⟩ := hml
  obtain ⟨kY, hkY, -⟩ := className_of_methodNamed hn
  have hiY : kY.init = .initialized := Cond.initialized_spec (findClass_of_methodNamed hn) hkY hini
  have hpre : (headSpec [cd] rm).pre.before av.toArray U = true := atoms_intro fun w hw => by rw [List.mem_singleton.mp hw]; exact hcd
  have hlo9 : 8 + (maxL + 11) + (headSpec [cd] rm).room.locals ≤ R.locals := hlo
  have happ : (headSpec [cd] rm).appliesLoose y e.platform (U.calling g mk av.toArray) = true :=
    Spec.appliesLoose_calling (g := g) hA hdg hn hkY hiY (X.room_calling (g := g) (R' := (headSpec [cd] rm).room) hsize hmY hcY hfr (by rw [hlY]; omega) hc hs) hpre
  obtain ⟨mid, hmid⟩ := hA.above
  have hfr9 : (U.setTop g).frames = (.java g :: mid) ++ below := by rw [State.frames_setTop' g hA.top, hmid]; rfl
  obtain ⟨o, t, hst, -, hend, hq⟩ := Steps.callFree hM p X.admits X.cas X.clock (acts := []) hfr9 happ ⟨rfl, hN, hP⟩ trivial
  have hq9 : yy_E z rm.cells rm.slots Post (U.calling g mk av.toArray) o t := hq
  rw [State.frames_setTop' g hA.top] at hend
  obtain ⟨g₀, hg0⟩ := Option.isSome_iff_exists.mp hA.top
  obtain ⟨r0, hr0⟩ := State.topJava?_eq_some.mp hg0
  obtain ⟨r, L, ho, hpost, hW, hsm, hL⟩ := hq9
  obtain ⟨e2, q2, q3, q4, q5, q6⟩ := id hsm
  have e3 : t = ({ (U.calling g mk av.toArray).setFrames t.frames with heap := t.heap, slotsUsed := t.slotsUsed } : State).setVm t.vm := by
    have h9 : t = ({ t with vm := (U.calling g mk av.toArray).vm } : State).setVm t.vm := rfl
    rw [e2] at h9
    exact h9
  have hW9 : U.WarmedH t.vm := hW
  have hB : (({ U with heap := t.heap, slotsUsed := t.slotsUsed } : State).setVm t.vm).frames = .java g₀ :: r0 := hr0
  have hsame : U.sameButNew ({ U with heap := t.heap, slotsUsed := t.slotsUsed } : State) L rm.cells rm.slots := by
    refine ⟨?_, q2, q3, q4, q5, q6⟩
    obtain ⟨u, hu, -⟩ := State.frames_cons hr0
    show ({ U with heap := t.heap, slotsUsed := t.slotsUsed } : State) = { U.setFrames U.frames with heap := t.heap, slotsUsed := t.slotsUsed }
    rw [State.setFrames_self hu]
  have hk : U.heap.size ≤ t.heap.size ∧ ∀ q : Nat, q < U.heap.size → (∀ x ∈ L, x.base ≠ q) → t.heap[q]? = U.heap[q]? := yy_kept (s := U.calling g mk av.toArray) (U := t) hsm
  have hS : yy_S z t.heap L := ⟨Nat.le_trans hN.2.1 hk.1, fun q h => (hk.2 q (Nat.lt_of_lt_of_le h hN.2.1) (fun x hx hh => Nat.not_le.mpr h (hh ▸ hL x hx))).trans (hN.2.2 q h), hL⟩
  have XB : Stand p l e R s m args below meth c (({ U with heap := t.heap, slotsUsed := t.slotsUsed } : State).setVm t.vm) (Ls ++ L) (c0 + rm.cells) (s0 + rm.slots) :=
    ⟨X.admits, X.cas, X.clock, X.frames, X.room, X.hears, X.method, X.code, (X.here.setHeapUsed t.heap t.slotsUsed).setVm hW9.alike, X.tail, State.WarmedH.trans X.warmed hW9, X.limits, X.bytes, X.same.trans (hsame.setVm s.vm)⟩
  refine ⟨r, _, L, XB, hL, hpost, rfl, hS, ?_⟩
  cases r with
  | inl v =>
    have ho9 : o = .returned v := ho
    subst ho9
    obtain ⟨c₂, i₂, len₂, hc₂, hd₂, hf₂⟩ := hend
    have hcc : c₂ = c := by
      have h1 : t.code? g.method = U.code? g.method := by
        rw [State.code?_eq, State.code?_eq, hW9.alike.method?]
      exact Option.some.inj (hc₂.symm.trans (h1.trans hA.code))
    subst hcc
    have hlen : len₂ = len := by rw [hdg] at hd₂; cases hd₂; rfl
    subst hlen
    have ht : t = (({ U with heap := t.heap, slotsUsed := t.slotsUsed } : State).setVm t.vm).setTop { g with pc := g.pc + len₂, stack := v.toList ++ g.stack } := by
      refine e3.trans ?_
      rw [hf₂, State.calling_eq hA.top, State.setFrames_setFrames, State.setTop_of_frames _ hB, hr0]
      rfl
    show Steps p.tables e below _ ((({ U with heap := t.heap, slotsUsed := t.slotsUsed } : State).setVm t.vm).setTop { g with pc := g.pc + len₂, stack := v.toList ++ g.stack })
    rw [← ht]
    exact hst
  | inr E =>
    obtain ⟨q, ce, ho9, hce, hcv, hcl⟩ := ho
    subst ho9
    have hf₂ : t.frames = .throwing q :: .java g :: U.frames.tail := hend
    have ht : t = ((({ U with heap := t.heap, slotsUsed := t.slotsUsed } : State).setVm t.vm).setTop g).pushFrame (.throwing q) := by
      refine e3.trans ?_
      rw [hf₂, State.calling_eq hA.top, State.setFrames_setFrames, State.pushFrame, State.frames_setTop _ hB, State.setTop_of_frames _ hB, State.setFrames_setFrames, hr0]
      rfl
    refine ⟨q, ce, hce, hcv, hcl, ?_⟩
    show Steps p.tables e below _ (((({ U with heap := t.heap, slotsUsed := t.slotsUsed } : State).setVm t.vm).setTop g).pushFrame (.throwing q))
    rw [← ht]
    exact hst
end Inv
/-- the frame g, with q thrown over it -/
def yy_X (p : Program) (l : Launch) (e : Env) (R : Room) (s : State) (m : MethodId) (args : Array Value) (below : List Frame) (meth : Method) (c : Code) (H : Heap) (locs : List Loc) (cells slots : Nat) (Q : State → Prop) (g : JFrame) (q : Addr) : Prop :=
  ∀ T : State, T.heap = H → Stand p l e R s m args below meth c T locs cells slots → ∃ t, Steps p.tables e below ((T.setTop g).pushFrame (.throwing q)) t ∧ Q t
section Go
variable {l : Launch} {z : State} {y : MethodName} {cd : Cond} {rm : Room} {av : List Value} {Pre : Heap → Prop} {Post : yy_R → Heap → Heap → Prop}
variable {p : Program} {e : Env} {R : Room} {s : State} {m : MethodId} {args : Array Value} {below : List Frame} {meth : Method} {c : Code} {H : Heap} {locs : List Loc} {cells slots : Nat} {Q : State → Prop}
variable {cc : ByteArray} {nL pc maxL index : Nat} {ls : Array Slot} {rest st0 : List Value} {own : String}
/-- what the method's frame stands on -/
abbrev yy_F (z : State) (p : Program) (s : State) (m : MethodId) (meth : Method) (c : Code) (cc : ByteArray) (nL : Nat) (own : String) (ret : Option FieldType) : Prop :=
  p.tables.exec = Jvm.exec ∧ c.code = cc ∧ c.maxLocals = nL ∧ s.vm.findClass own = some m.cls ∧ yy_N z s ∧ meth.locks = false ∧ meth.sig.returnType = ret
/-- a callee's own words, at the caller's start -/
abbrev yy_B (s : State) (y : MethodName) (cd : Cond) (maxL : Nat) : Prop :=
  (∀ (a' : Array Value) (U : State), s.WarmedH U.vm → cd.before a' U = true) ∧ (∀ (a' : Array Value) (U : State), s.WarmedH U.vm → (Cond.initialized y.cls).before a' U = true) ∧
  (∀ (U : State) (mk : MethodId), s.WarmedH U.vm → U.methodNamed? y = some mk → ∃ (methY : Method) (cY : Code), U.vm.method? mk = some methY ∧ methY.code = some cY ∧ cY.maxLocals = maxL)
theorem yy_B.code {bytes : ByteArray} {ret : Option FieldType} {a : Array Value} (h : (Cond.code y bytes maxL ret).before a s = true) (hi : (Cond.initialized y.cls).before a s = true) (hg : goodWord (Cond.code y bytes maxL ret) = true) : yy_B s y (.code y bytes maxL ret) maxL := by
  have h1 : ∀ (a' : Array Value) (U : State), s.WarmedH U.vm → (Cond.code y bytes maxL ret).before a' U = true := fun a' U hW => word_at hW (good_of_word hg) h
  refine ⟨h1, fun a' U hW => word_at hW (Or.inl (by first | rfl | simp [Cond.onTables, Cond.keeps, Cond.steady])) hi, fun U mk hW hn => ?_⟩
  obtain ⟨methY, cY, q1, q2, -, q4, -⟩ := Cond.code_spec hn (h1 #[] U hW)
  exact ⟨methY, cY, q1, q2, q4⟩
theorem yy_B.codeW {bytes : ByteArray} {ret : Option FieldType} {hh : List (Nat × Nat × Nat × Nat)} {a : Array Value} (h : (Cond.codeWith y bytes maxL ret hh).before a s = true) (hi : (Cond.initialized y.cls).before a s = true) (hg : goodWord (Cond.codeWith y bytes maxL ret hh) = true) : yy_B s y (.codeWith y bytes maxL ret hh) maxL := by
  have h1 : ∀ (a' : Array Value) (U : State), s.WarmedH U.vm → (Cond.codeWith y bytes maxL ret hh).before a' U = true := fun a' U hW => word_at hW (good_of_word hg) h
  refine ⟨h1, fun a' U hW => word_at hW (Or.inl (by first | rfl | simp [Cond.onTables, Cond.keeps, Cond.steady])) hi, fun U mk hW hn => ?_⟩
  obtain ⟨m9, methY, cY, hn9, q1, q2, -, q4, -⟩ := Cond.codeWith_spec (h1 #[] U hW)
  cases hn.symm.trans hn9
  exact ⟨methY, cY, q1, q2, q4⟩
/-- the step that pushes the callee's frame, whatever kind of call it is -/
abbrev yy_P (p : Program) (l : Launch) (e : Env) (R : Room) (s : State) (m : MethodId) (args : Array Value) (below : List Frame) (meth : Method) (c : Code) (H : Heap) (locs : List Loc) (cells slots : Nat) (y : MethodName) (av : List Value) (g g2 : JFrame) : Prop :=
  ∀ T : State, T.heap = H → Stand p l e R s m args below meth c T locs cells slots → ∃ (vm₁ : Vm) (mk : MethodId), Stand p l e R s m args below meth c (T.setVm vm₁) locs cells slots ∧ (T.setVm vm₁).methodNamed? y = some mk ∧
    ∀ target, Steps p.tables e below (doInvoke e ((T.setVm vm₁).setTop g2) [] mk av.toArray).1 target → Steps p.tables e below (T.setTop g) target
theorem yy_go (hN : yy_N z s) (hS : yy_S z H locs) (hM : yy_M l z y cd rm av Pre Post) (hB : yy_B s y cd maxL) (inv : yy_P p l e R s m args below meth c H locs cells slots y av (F0 m pc ls st0) (F0 m pc ls rest))
    {ig : Instr} (hdg : decode c.code pc = .ok (ig, 3)) (hsize : ls.size = c.maxLocals) (hW8 : (rest.map fun v => v.category).sum ≤ 8)
    (hR : rm.frames + 1 ≤ R.frames ∧ 8 + (maxL + 11) + rm.locals ≤ R.locals) (hf : cells + rm.cells ≤ R.cells ∧ slots + rm.slots ≤ R.slots) (hP : Pre H)
    (kr : ∀ (v : Option Value) (H1 : Heap) (locs1 : List Loc), Post (.inl v) H H1 → yy_S z H1 locs1 → W p l e R s m args below meth c H1 locs1 (cells + rm.cells) (slots + rm.slots) Q (F0 m (pc + 3) ls (v.toList ++ rest)))
    (kt : ∀ (E : String) (q : Addr) (ce : Cell) (H1 : Heap) (locs1 : List Loc), Post (.inr E) H H1 → yy_S z H1 locs1 → H1[q]? = some ce → ce.vm = .none → s.vm.findClass E = some ce.cls → yy_X p l e R s m args below meth c H1 locs1 (cells + rm.cells) (slots + rm.slots) Q (F0 m pc ls rest) q) :
    W p l e R s m args below meth c H locs cells slots Q (F0 m pc ls st0) := by
  intro T hT X
  obtain ⟨vm₁, mk, X₁, hn, hst⟩ := inv T hT X
  have hh : (T.setVm vm₁).heap = H := hT
  have hN1 : yy_N z (T.setVm vm₁) := hN.of X₁.warmed (locs := locs) (by rw [hh]; exact hS)
  obtain ⟨r, B, L, XB, hL, hpost, -, hSB, hgo⟩ := yy_inv hM X₁ (g := F0 m pc ls rest) (maxL := maxL) rfl hsize hdg (by show 2 * 0 + (rest.map fun v => v.category).sum ≤ 8; omega) hn (hB.1 _ _ X₁.warmed) (hB.2.2 _ _ X₁.warmed hn) (hB.2.1 _ _ X₁.warmed) hR.1 hR.2 hf.1 hf.2 hN1 (by rw [hh]; exact hP)
  rw [hh] at hpost
  have hS1 : yy_S z B.heap (locs ++ L) := ⟨hSB.1, hSB.2.1, fun q hq => by
    rcases List.mem_append.mp hq with h | h
    · exact hS.2.2 q h
    · exact hL q h⟩
  cases r with
  | inl v =>
    obtain ⟨t, a1, b1⟩ := kr v B.heap (locs ++ L) hpost hS1 B rfl XB
    exact ⟨t, hst t (Steps.trans hgo a1), b1⟩
  | inr E =>
    obtain ⟨q, ce, hce, hcv, hcl, hgo⟩ := hgo
    have hcl9 : s.vm.findClass E = some ce.cls := by
      have h1 : vm₁.findClass E = some ce.cls := hcl
      have h2 : s.WarmedH vm₁ := X₁.warmed
      rw [h2.alike.findClass] at h1
      exact h1
    obtain ⟨t, a1, b1⟩ := kt E q ce B.heap (locs ++ L) hpost hS1 hce hcv hcl9 B rfl XB
    exact ⟨t, hst t (Steps.trans hgo a1), b1⟩
/-- invokestatic -/
theorem yy_PS (hx : p.tables.exec = Jvm.exec) (hown : s.vm.findClass own = some m.cls) (hlink : (Cond.methodLink own index y).before args s = true) (hstat : (Cond.static y).before args s = true) (hini : (Cond.initialized y.cls).before args s = true)
    (hsig : ∀ mk, s.methodNamed? y = some mk → ∃ methY : Method, s.vm.method? mk = some methY ∧ parseMethodDescriptor y.desc = some methY.sig) (hnm : ∃ mk, s.methodNamed? y = some mk) (hy : y.cls ≠ "java/lang/invoke/MethodHandle" ∧ y.cls ≠ "java/lang/invoke/VarHandle")
    {n : Nat} (hlen : (parseMethodDescriptor y.desc).map (fun d => d.parameters.length) = some n) (hn : av.length = n) (hst0 : st0 = av.reverse ++ rest) (hdg : decode c.code pc = .ok (.invokestatic index, 3)) :
    yy_P p l e R s m args below meth c H locs cells slots y av (F0 m pc ls st0) (F0 m pc ls rest) := by
  intro T hT X
  obtain ⟨mk, hnamed⟩ := hnm
  obtain ⟨methM, hmethM, hsigM⟩ := hsig mk hnamed
  have hstatic : methM.isStatic = true := Cond.static_spec hnamed hmethM hstat
  obtain ⟨kP, hkP, -⟩ := className_of_methodNamed hnamed
  have hinitP : kP.init = .initialized := Cond.initialized_spec (findClass_of_methodNamed hnamed) hkP hini
  obtain ⟨vm₁, X₁, hstep₁⟩ := X.invokestatic hx hown hlink hnamed hmethM hstatic hkP hinitP hy (g := F0 m pc ls st0) rfl (argsL := av) (rest := rest) (by rw [hsigM] at hlen; rw [hn]; exact (Option.some.inj hlen).symm) hst0 hdg
  exact ⟨vm₁, mk, X₁, X₁.named hnamed, fun target h => hstep₁ _ fun acts => by rw [doInvoke_state]; exact h⟩
end Go
end YB
end
section
/-! PART rows: a row an instruction, over a bundled judgement -/
section YR
/-- program, launch, environment, room, start, method, arguments, frames below, method's record, code, locals, what is to be reached -/
abbrev yy_T : Type := Program × Launch × Env × Room × State × MethodId × Array Value × List Frame × Method × Code × Nat × (State → Prop)
abbrev yy_p (b : yy_T) : Program := b.1
abbrev yy_l (b : yy_T) : Launch := b.2.1
abbrev yy_e (b : yy_T) : Env := b.2.2.1
abbrev yy_r (b : yy_T) : Room := b.2.2.2.1
abbrev yy_s (b : yy_T) : State := b.2.2.2.2.1
abbrev yy_m (b : yy_T) : MethodId := b.2.2.2.2.2.1
abbrev yy_a (b : yy_T) : Array Value := b.2.2.2.2.2.2.1
abbrev yy_b (b : yy_T) : List Frame := b.2.2.2.2.2.2.2.1
abbrev yy_t (b : yy_T) : Method := b.2.2.2.2.2.2.2.2.1
abbrev yy_c (b : yy_T) : Code := b.2.2.2.2.2.2.2.2.2.1
abbrev yy_n (b : yy_T) : Nat := b.2.2.2.2.2.2.2.2.2.2.1
abbrev yy_q (b : yy_T) : State → Prop := b.2.2.2.2.2.2.2.2.2.2.2
def yy_W (b : yy_T) (H : Heap) (locs : List Loc) (k : Nat × Nat) (g : JFrame) : Prop := W (yy_p b) (yy_l b) (yy_e b) (yy_r b) (yy_s b) (yy_m b) (yy_a b) (yy_b b) (yy_t b) (yy_c b) H locs k.1 k.2 (yy_q b) g
/-- at pc, with these locals and this operand stack, the method comes to its end as it must -/
def yy_Y (b : yy_T) (H : Heap) (locs : List Loc) (k : Nat × Nat) (pc : Nat) (lv : List (Nat × Value)) (st : List Value) : Prop := ∀ ls : Array Slot, lv_has ls (yy_n b) lv → yy_W b H locs k (F0 (yy_m b) pc ls st)
/-- the same with q thrown -/
def yy_V (b : yy_T) (H : Heap) (locs : List Loc) (k : Nat × Nat) (pc : Nat) (lv : List (Nat × Value)) (st : List Value) (q : Addr) : Prop := ∀ ls : Array Slot, lv_has ls (yy_n b) lv → yy_X (yy_p b) (yy_l b) (yy_e b) (yy_r b) (yy_s b) (yy_m b) (yy_a b) (yy_b b) (yy_t b) (yy_c b) H locs k.1 k.2 (yy_q b) (F0 (yy_m b) pc ls st) q
/-- how a method must end -/
def yy_Q (z : State) (rm : Room) (below : List Frame) (Post : yy_R → Heap → Prop) (s : State) : State → Prop := fun t => ∃ o, t.status = .running ∧ Ended t below o ∧ yy_E z rm.cells rm.slots (fun r _ H1 => Post r H1) s o t
/-- what a method's walk stands on: launch, start z, room, bytes, its class, its answer's type, its table of handlers, its end -/
def yy_A (l : Launch) (z : State) (b : yy_T) (rm : Room) (cc : ByteArray) (nL : Nat) (own : String) (ret : Option FieldType) (hh : List (Nat × Nat × Nat × Nat)) (Post : yy_R → Heap → Prop) : Prop :=
  yy_l b = l ∧ yy_r b = rm ∧ (yy_p b).tables.exec = Jvm.exec ∧ (yy_c b).code = cc ∧ (yy_c b).maxLocals = nL ∧ yy_n b = nL ∧ (yy_s b).vm.findClass own = some (yy_m b).cls ∧ yy_N z (yy_s b) ∧ (yy_t b).locks = false ∧ (yy_t b).sig.returnType = ret ∧ (yy_c b).exceptionTable.toList = tableOf hh ∧ yy_q b = yy_Q z rm (yy_b b) Post (yy_s b)
section YRa
variable {l : Launch} {z : State} {b : yy_T} {rm : Room} {cc : ByteArray} {nL : Nat} {own : String} {ret : Option FieldType} {hh : List (Nat × Nat × Nat × Nat)} {Post : yy_R → Heap → Prop}
theorem yy_A.ll (F : yy_A l z b rm cc nL own ret hh Post) : yy_l b = l := F.1
theorem yy_A.r (F : yy_A l z b rm cc nL own ret hh Post) : yy_r b = rm := F.2.1
theorem yy_A.x (F : yy_A l z b rm cc nL own ret hh Post) : (yy_p b).tables.exec = Jvm.exec := F.2.2.1
theorem yy_A.c (F : yy_A l z b rm cc nL own ret hh Post) : (yy_c b).code = cc := F.2.2.2.1
theorem yy_A.ml (F : yy_A l z b rm cc nL own ret hh Post) : (yy_c b).maxLocals = nL := F.2.2.2.2.1
theorem yy_A.n (F : yy_A l z b rm cc nL own ret hh Post) : yy_n b = nL := F.2.2.2.2.2.1
theorem yy_A.ow (F : yy_A l z b rm cc nL own ret hh Post) : (yy_s b).vm.findClass own = some (yy_m b).cls := F.2.2.2.2.2.2.1
theorem yy_A.N (F : yy_A l z b rm cc nL own ret hh Post) : yy_N z (yy_s b) := F.2.2.2.2.2.2.2.1
theorem yy_A.lk (F : yy_A l z b rm cc nL own ret hh Post) : (yy_t b).locks = false := F.2.2.2.2.2.2.2.2.1
theorem yy_A.rt (F : yy_A l z b rm cc nL own ret hh Post) : (yy_t b).sig.returnType = ret := F.2.2.2.2.2.2.2.2.2.1
theorem yy_A.tb (F : yy_A l z b rm cc nL own ret hh Post) : (yy_c b).exceptionTable.toList = tableOf hh := F.2.2.2.2.2.2.2.2.2.2.1
theorem yy_A.q (F : yy_A l z b rm cc nL own ret hh Post) : yy_q b = yy_Q z rm (yy_b b) Post (yy_s b) := F.2.2.2.2.2.2.2.2.2.2.2
variable {H : Heap} {locs : List Loc} {k : Nat × Nat} {pc n : Nat} {lv lv' : List (Nat × Value)} {st : List Value}

theorem yy_iconst (F : yy_A l z b rm cc nL own ret hh Post) {i : Int} {v : Int32} (d : decode cc pc = .ok ((.iconst i), 1)) (hn : pc + 1 = n) (hv : Int32.ofInt i = v) (kk : yy_Y b H locs k n lv (.int v :: st)) : yy_Y b H locs k pc lv (st) := by
  subst hn
  intro ls hl
  exact lv_iconst F.x F.c d hv (kk ls hl)
theorem yy_bipush (F : yy_A l z b rm cc nL own ret hh Post) {i : Int} {v : Int32} (d : decode cc pc = .ok ((.bipush i), 2)) (hn : pc + 2 = n) (hv : (Int8.ofInt i).toInt32 = v) (kk : yy_Y b H locs k n lv (.int v :: st)) : yy_Y b H locs k pc lv (st) := by
  subst hn
  intro ls hl
  exact lv_bipush F.x F.c d hv (kk ls hl)
theorem yy_sipush (F : yy_A l z b rm cc nL own ret hh Post) {i : Int} {v : Int32} (d : decode cc pc = .ok ((.sipush i), 3)) (hn : pc + 3 = n) (hv : (Int16.ofInt i).toInt32 = v) (kk : yy_Y b H locs k n lv (.int v :: st)) : yy_Y b H locs k pc lv (st) := by
  subst hn
  intro ls hl
  exact lv_sipush F.x F.c d hv (kk ls hl)
theorem yy_lconst (F : yy_A l z b rm cc nL own ret hh Post) {i : Fin 2} {v : Int64} (d : decode cc pc = .ok ((.lconst i), 1)) (hn : pc + 1 = n) (hv : Int64.ofNat (i : Nat) = v) (kk : yy_Y b H locs k n lv (.long v :: st)) : yy_Y b H locs k pc lv (st) := by
  subst hn
  intro ls hl
  exact lv_lconst F.x F.c d hv (kk ls hl)
theorem yy_null (F : yy_A l z b rm cc nL own ret hh Post) (d : decode cc pc = .ok ((.aconst_null), 1)) (hn : pc + 1 = n) (kk : yy_Y b H locs k n lv (.null :: st)) : yy_Y b H locs k pc lv (st) := by
  subst hn
  intro ls hl
  exact lv_null F.x F.c d (kk ls hl)
theorem yy_iload_n (F : yy_A l z b rm cc nL own ret hh Post) {i : Fin 4} {x : Int32} (d : decode cc pc = .ok ((.iload_n i), 1)) (hn : pc + 1 = n) (j : Nat) (hj : lv[j]? = some ((i : Nat), Value.int x)) (kk : yy_Y b H locs k n lv (.int x :: st)) : yy_Y b H locs k pc lv (st) := by
  subst hn
  intro ls hl
  exact lv_iload_n F.x F.c d rfl (lv_at hl j hj) (kk ls hl)
theorem yy_iload (F : yy_A l z b rm cc nL own ret hh Post) {i : Nat} {x : Int32} (d : decode cc pc = .ok ((.iload i), 2)) (hn : pc + 2 = n) (j : Nat) (hj : lv[j]? = some (i, Value.int x)) (kk : yy_Y b H locs k n lv (.int x :: st)) : yy_Y b H locs k pc lv (st) := by
  subst hn
  intro ls hl
  exact lv_iload F.x F.c d (lv_at hl j hj) (kk ls hl)
theorem yy_lload_n (F : yy_A l z b rm cc nL own ret hh Post) {i : Fin 4} {x : Int64} (d : decode cc pc = .ok ((.lload_n i), 1)) (hn : pc + 1 = n) (j : Nat) (hj : lv[j]? = some ((i : Nat), Value.long x)) (kk : yy_Y b H locs k n lv (.long x :: st)) : yy_Y b H locs k pc lv (st) := by
  subst hn
  intro ls hl
  exact lv_lload_n F.x F.c d rfl (lv_at hl j hj) (kk ls hl)
theorem yy_lload (F : yy_A l z b rm cc nL own ret hh Post) {i : Nat} {x : Int64} (d : decode cc pc = .ok ((.lload i), 2)) (hn : pc + 2 = n) (j : Nat) (hj : lv[j]? = some (i, Value.long x)) (kk : yy_Y b H locs k n lv (.long x :: st)) : yy_Y b H locs k pc lv (st) := by
  subst hn
  intro ls hl
  exact lv_lload F.x F.c d (lv_at hl j hj) (kk ls hl)
theorem yy_aload_n (F : yy_A l z b rm cc nL own ret hh Post) {i : Fin 4} {x : Nat} (d : decode cc pc = .ok ((.aload_n i), 1)) (hn : pc + 1 = n) (j : Nat) (hj : lv[j]? = some ((i : Nat), Value.ref x)) (kk : yy_Y b H locs k n lv (.ref x :: st)) : yy_Y b H locs k pc lv (st) := by
  subst hn
  intro ls hl
  exact lv_aload_n F.x F.c d rfl (lv_at hl j hj) (kk ls hl)
theorem yy_aload (F : yy_A l z b rm cc nL own ret hh Post) {i : Nat} {x : Nat} (d : decode cc pc = .ok ((.aload i), 2)) (hn : pc + 2 = n) (j : Nat) (hj : lv[j]? = some (i, Value.ref x)) (kk : yy_Y b H locs k n lv (.ref x :: st)) : yy_Y b H locs k pc lv (st) := by
  subst hn
  intro ls hl
  exact lv_aload F.x F.c d (lv_at hl j hj) (kk ls hl)
theorem yy_aload_nN (F : yy_A l z b rm cc nL own ret hh Post) {i : Fin 4} (d : decode cc pc = .ok ((.aload_n i), 1)) (hn : pc + 1 = n) (j : Nat) (hj : lv[j]? = some ((i : Nat), Value.null)) (kk : yy_Y b H locs k n lv (.null :: st)) : yy_Y b H locs k pc lv (st) := by
  subst hn
  intro ls hl
  exact lv_aload_nN F.x F.c d rfl (lv_at hl j hj) (kk ls hl)
theorem yy_aloadN (F : yy_A l z b rm cc nL own ret hh Post) {i : Nat} (d : decode cc pc = .ok ((.aload i), 2)) (hn : pc + 2 = n) (j : Nat) (hj : lv[j]? = some (i, Value.null)) (kk : yy_Y b H locs k n lv (.null :: st)) : yy_Y b H locs k pc lv (st) := by
  subst hn
  intro ls hl
  exact lv_aloadN F.x F.c d (lv_at hl j hj) (kk ls hl)
theorem yy_istore_n (F : yy_A l z b rm cc nL own ret hh Post) {i : Fin 4} {x : Int32} (d : decode cc pc = .ok ((.istore_n i), 1)) (hn : pc + 1 = n) (hi : (i : Nat) < nL) (hl' : ((i : Nat), Value.int x) :: lv.filter (fun q => !(q.1 == (i : Nat)) && !(q.1 + 1 == (i : Nat) && q.2.category == 2)) = lv') (kk : yy_Y b H locs k n lv' (st)) : yy_Y b H locs k pc lv (.int x :: st) := by
  subst hn
  intro ls hl
  exact lv_istore_n F.x F.c d rfl hl (by rw [F.n]; exact hi) hl' kk
theorem yy_istore (F : yy_A l z b rm cc nL own ret hh Post) {i : Nat} {x : Int32} (d : decode cc pc = .ok ((.istore i), 2)) (hn : pc + 2 = n) (hi : i < nL) (hl' : (i, Value.int x) :: lv.filter (fun q => !(q.1 == i) && !(q.1 + 1 == i && q.2.category == 2)) = lv') (kk : yy_Y b H locs k n lv' (st)) : yy_Y b H locs k pc lv (.int x :: st) := by
  subst hn
  intro ls hl
  exact lv_istore F.x F.c d hl (by rw [F.n]; exact hi) hl' kk
theorem yy_lstore_n (F : yy_A l z b rm cc nL own ret hh Post) {i : Fin 4} {x : Int64} (d : decode cc pc = .ok ((.lstore_n i), 1)) (hn : pc + 1 = n) (hi : (i : Nat) + 1 < nL) (hl' : ((i : Nat), Value.long x) :: lv.filter (fun q => !(q.1 == (i : Nat)) && (!(q.1 == (i : Nat) + 1) && !(q.1 + 1 == (i : Nat) && q.2.category == 2))) = lv') (kk : yy_Y b H locs k n lv' (st)) : yy_Y b H locs k pc lv (.long x :: st) := by
  subst hn
  intro ls hl
  exact lv_lstore_n F.x F.c d rfl hl (by rw [F.n]; exact hi) hl' kk
theorem yy_lstore (F : yy_A l z b rm cc nL own ret hh Post) {i : Nat} {x : Int64} (d : decode cc pc = .ok ((.lstore i), 2)) (hn : pc + 2 = n) (hi : i + 1 < nL) (hl' : (i, Value.long x) :: lv.filter (fun q => !(q.1 == i) && (!(q.1 == i + 1) && !(q.1 + 1 == i && q.2.category == 2))) = lv') (kk : yy_Y b H locs k n lv' (st)) : yy_Y b H locs k pc lv (.long x :: st) := by
  subst hn
  intro ls hl
  exact lv_lstore F.x F.c d hl (by rw [F.n]; exact hi) hl' kk
theorem yy_astore_n (F : yy_A l z b rm cc nL own ret hh Post) {i : Fin 4} {x : Nat} (d : decode cc pc = .ok ((.astore_n i), 1)) (hn : pc + 1 = n) (hi : (i : Nat) < nL) (hl' : ((i : Nat), Value.ref x) :: lv.filter (fun q => !(q.1 == (i : Nat)) && !(q.1 + 1 == (i : Nat) && q.2.category == 2)) = lv') (kk : yy_Y b H locs k n lv' (st)) : yy_Y b H locs k pc lv (.ref x :: st) := by
  subst hn
  intro ls hl
  exact lv_astore_n F.x F.c d rfl hl (by rw [F.n]; exact hi) hl' kk
theorem yy_astore (F : yy_A l z b rm cc nL own ret hh Post) {i : Nat} {x : Nat} (d : decode cc pc = .ok ((.astore i), 2)) (hn : pc + 2 = n) (hi : i < nL) (hl' : (i, Value.ref x) :: lv.filter (fun q => !(q.1 == i) && !(q.1 + 1 == i && q.2.category == 2)) = lv') (kk : yy_Y b H locs k n lv' (st)) : yy_Y b H locs k pc lv (.ref x :: st) := by
  subst hn
  intro ls hl
  exact lv_astore F.x F.c d hl (by rw [F.n]; exact hi) hl' kk
theorem yy_astore_nN (F : yy_A l z b rm cc nL own ret hh Post) {i : Fin 4} (d : decode cc pc = .ok ((.astore_n i), 1)) (hn : pc + 1 = n) (hi : (i : Nat) < nL) (hl' : ((i : Nat), Value.null) :: lv.filter (fun q => !(q.1 == (i : Nat)) && !(q.1 + 1 == (i : Nat) && q.2.category == 2)) = lv') (kk : yy_Y b H locs k n lv' (st)) : yy_Y b H locs k pc lv (.null :: st) := by
  subst hn
  intro ls hl
  exact lv_astore_nN F.x F.c d rfl hl (by rw [F.n]; exact hi) hl' kk
theorem yy_astoreN (F : yy_A l z b rm cc nL own ret hh Post) {i : Nat} (d : decode cc pc = .ok ((.astore i), 2)) (hn : pc + 2 = n) (hi : i < nL) (hl' : (i, Value.null) :: lv.filter (fun q => !(q.1 == i) && !(q.1 + 1 == i && q.2.category == 2)) = lv') (kk : yy_Y b H locs k n lv' (st)) : yy_Y b H locs k pc lv (.null :: st) := by
  subst hn
  intro ls hl
  exact lv_astoreN F.x F.c d hl (by rw [F.n]; exact hi) hl' kk
theorem yy_iinc (F : yy_A l z b rm cc nL own ret hh Post) {i : Nat} {a : Int} {x v : Int32} (d : decode cc pc = .ok ((.iinc i a), 3)) (hn : pc + 3 = n) (j : Nat) (hj : lv[j]? = some (i, Value.int x)) (hv : x + Int32.ofInt a = v) (hi : i < nL) (hl' : (i, Value.int v) :: lv.filter (fun q => !(q.1 == i) && !(q.1 + 1 == i && q.2.category == 2)) = lv') (kk : yy_Y b H locs k n lv' (st)) : yy_Y b H locs k pc lv (st) := by
  subst hn
  intro ls hl
  exact lv_iinc F.x F.c d hl hj hv (by rw [F.n]; exact hi) hl' kk
theorem yy_iadd (F : yy_A l z b rm cc nL own ret hh Post) {x y : Int32} (d : decode cc pc = .ok ((.iadd), 1)) (hn : pc + 1 = n) (kk : yy_Y b H locs k n lv (.int (x + y) :: st)) : yy_Y b H locs k pc lv (.int y :: .int x :: st) := by
  subst hn
  intro ls hl
  exact lv_iadd F.x F.c d (kk ls hl)
theorem yy_isub (F : yy_A l z b rm cc nL own ret hh Post) {x y : Int32} (d : decode cc pc = .ok ((.isub), 1)) (hn : pc + 1 = n) (kk : yy_Y b H locs k n lv (.int (x - y) :: st)) : yy_Y b H locs k pc lv (.int y :: .int x :: st) := by
  subst hn
  intro ls hl
  exact lv_isub F.x F.c d (kk ls hl)
theorem yy_imul (F : yy_A l z b rm cc nL own ret hh Post) {x y : Int32} (d : decode cc pc = .ok ((.imul), 1)) (hn : pc + 1 = n) (kk : yy_Y b H locs k n lv (.int (x * y) :: st)) : yy_Y b H locs k pc lv (.int y :: .int x :: st) := by
  subst hn
  intro ls hl
  exact lv_imul F.x F.c d (kk ls hl)
theorem yy_iand (F : yy_A l z b rm cc nL own ret hh Post) {x y : Int32} (d : decode cc pc = .ok ((.iand), 1)) (hn : pc + 1 = n) (kk : yy_Y b H locs k n lv (.int (x &&& y) :: st)) : yy_Y b H locs k pc lv (.int y :: .int x :: st) := by
  subst hn
  intro ls hl
  exact lv_iand F.x F.c d (kk ls hl)
theorem yy_ior (F : yy_A l z b rm cc nL own ret hh Post) {x y : Int32} (d : decode cc pc = .ok ((.ior), 1)) (hn : pc + 1 = n) (kk : yy_Y b H locs k n lv (.int (x ||| y) :: st)) : yy_Y b H locs k pc lv (.int y :: .int x :: st) := by
  subst hn
  intro ls hl
  exact lv_ior F.x F.c d (kk ls hl)
theorem yy_ixor (F : yy_A l z b rm cc nL own ret hh Post) {x y : Int32} (d : decode cc pc = .ok ((.ixor), 1)) (hn : pc + 1 = n) (kk : yy_Y b H locs k n lv (.int (x ^^^ y) :: st)) : yy_Y b H locs k pc lv (.int y :: .int x :: st) := by
  subst hn
  intro ls hl
  exact lv_ixor F.x F.c d (kk ls hl)
theorem yy_idiv (F : yy_A l z b rm cc nL own ret hh Post) {x y : Int32} (d : decode cc pc = .ok ((.idiv), 1)) (hn : pc + 1 = n) (h0 : ¬ y = 0) (kk : yy_Y b H locs k n lv (.int (x / y) :: st)) : yy_Y b H locs k pc lv (.int y :: .int x :: st) := by
  subst hn
  intro ls hl
  exact lv_idiv F.x F.c d h0 (kk ls hl)
theorem yy_irem (F : yy_A l z b rm cc nL own ret hh Post) {x y : Int32} (d : decode cc pc = .ok ((.irem), 1)) (hn : pc + 1 = n) (h0 : ¬ y = 0) (kk : yy_Y b H locs k n lv (.int (x - x / y * y) :: st)) : yy_Y b H locs k pc lv (.int y :: .int x :: st) := by
  subst hn
  intro ls hl
  exact lv_irem F.x F.c d h0 (kk ls hl)
theorem yy_iushr (F : yy_A l z b rm cc nL own ret hh Post) {x y v : Int32} (d : decode cc pc = .ok ((.iushr), 1)) (hn : pc + 1 = n) (hv : (x.toUInt32 >>> (y.toUInt32 &&& Int32.toUInt32 31)).toInt32 = v) (kk : yy_Y b H locs k n lv (.int v :: st)) : yy_Y b H locs k pc lv (.int y :: .int x :: st) := by
  subst hn
  intro ls hl
  exact lv_iushr F.x F.c d hv (kk ls hl)
theorem yy_ineg (F : yy_A l z b rm cc nL own ret hh Post) {x : Int32} (d : decode cc pc = .ok ((.ineg), 1)) (hn : pc + 1 = n) (kk : yy_Y b H locs k n lv (.int (-x) :: st)) : yy_Y b H locs k pc lv (.int x :: st) := by
  subst hn
  intro ls hl
  exact lv_ineg F.x F.c d (kk ls hl)
theorem yy_i2l (F : yy_A l z b rm cc nL own ret hh Post) {x : Int32} {v : Int64} (d : decode cc pc = .ok ((.i2l), 1)) (hn : pc + 1 = n) (hv : x.toInt64 = v) (kk : yy_Y b H locs k n lv (.long v :: st)) : yy_Y b H locs k pc lv (.int x :: st) := by
  subst hn
  intro ls hl
  exact lv_i2l F.x F.c d hv (kk ls hl)
theorem yy_lcmp (F : yy_A l z b rm cc nL own ret hh Post) {x y : Int64} (d : decode cc pc = .ok ((.lcmp), 1)) (hn : pc + 1 = n) (kk : yy_Y b H locs k n lv (.int (lg_cmp x y) :: st)) : yy_Y b H locs k pc lv (.long y :: .long x :: st) := by
  subst hn
  intro ls hl
  exact W.lcmp F.x F.c d (kk ls hl)
theorem yy_dup (F : yy_A l z b rm cc nL own ret hh Post) {u : Value} (d : decode cc pc = .ok ((.dup), 1)) (hn : pc + 1 = n) (h1 : u.category = 1) (kk : yy_Y b H locs k n lv (u :: u :: st)) : yy_Y b H locs k pc lv (u :: st) := by
  subst hn
  intro ls hl
  exact lv_dup F.x F.c d h1 (kk ls hl)
theorem yy_pop (F : yy_A l z b rm cc nL own ret hh Post) {u : Value} (d : decode cc pc = .ok ((.pop), 1)) (hn : pc + 1 = n) (h1 : u.category = 1) (kk : yy_Y b H locs k n lv (st)) : yy_Y b H locs k pc lv (u :: st) := by
  subst hn
  intro ls hl
  exact lv_pop F.x F.c d h1 (kk ls hl)
theorem yy_dup_x1 (F : yy_A l z b rm cc nL own ret hh Post) {u w : Value} (d : decode cc pc = .ok ((.dup_x1), 1)) (hn : pc + 1 = n) (h1 : u.category = 1) (h2 : w.category = 1) (kk : yy_Y b H locs k n lv (u :: w :: u :: st)) : yy_Y b H locs k pc lv (u :: w :: st) := by
  subst hn
  intro ls hl
  exact lv_dup_x1 F.x F.c d h1 h2 (kk ls hl)
theorem yy_dup_x2 (F : yy_A l z b rm cc nL own ret hh Post) {u w y : Value} (d : decode cc pc = .ok ((.dup_x2), 1)) (hn : pc + 1 = n) (h1 : u.category = 1) (h2 : w.category = 1) (h3 : y.category = 1) (kk : yy_Y b H locs k n lv (u :: w :: y :: u :: st)) : yy_Y b H locs k pc lv (u :: w :: y :: st) := by
  subst hn
  intro ls hl
  exact lv_dup_x2 F.x F.c d h1 h2 h3 (kk ls hl)
theorem yy_dup2 (F : yy_A l z b rm cc nL own ret hh Post) {u w : Value} (d : decode cc pc = .ok ((.dup2), 1)) (hn : pc + 1 = n) (h1 : u.category = 1) (h2 : w.category = 1) (kk : yy_Y b H locs k n lv (u :: w :: u :: w :: st)) : yy_Y b H locs k pc lv (u :: w :: st) := by
  subst hn
  intro ls hl
  exact lv_dup2_11 F.x F.c d h1 h2 (kk ls hl)
theorem yy_if_eq (F : yy_A l z b rm cc nL own ret hh Post) {x : Int32} {off : Int} {tgt : Nat} (d : decode cc pc = .ok (.ifCond .eq off, 3)) (hn : pc + 3 = n) (ht : (pc : Int) + off = (tgt : Int)) (kt : x = 0 → yy_Y b H locs k tgt lv st) (kf : ¬ (x = 0) → yy_Y b H locs k n lv st) : yy_Y b H locs k pc lv (.int x :: st) := by
  subst hn
  intro ls hl
  exact lv_if_eq F.x F.c d ht (fun h => kt h ls hl) (fun h => kf h ls hl)
theorem yy_if_eq_t (F : yy_A l z b rm cc nL own ret hh Post) {x : Int32} {off : Int} {tgt : Nat} (d : decode cc pc = .ok (.ifCond .eq off, 3)) (ht : (pc : Int) + off = (tgt : Int)) (h : x = 0) (kt : yy_Y b H locs k tgt lv st) : yy_Y b H locs k pc lv (.int x :: st) := yy_if_eq F d rfl ht (fun _ => kt) (fun q => absurd h q)
theorem yy_if_eq_f (F : yy_A l z b rm cc nL own ret hh Post) {x : Int32} {off : Int} {tgt : Nat} (d : decode cc pc = .ok (.ifCond .eq off, 3)) (hn : pc + 3 = n) (ht : (pc : Int) + off = (tgt : Int)) (h : ¬ (x = 0)) (kf : yy_Y b H locs k n lv st) : yy_Y b H locs k pc lv (.int x :: st) := yy_if_eq F d hn ht (fun q => absurd q h) (fun _ => kf)
theorem yy_ic_eq (F : yy_A l z b rm cc nL own ret hh Post) {x y : Int32} {off : Int} {tgt : Nat} (d : decode cc pc = .ok (.if_icmp .eq off, 3)) (hn : pc + 3 = n) (ht : (pc : Int) + off = (tgt : Int)) (kt : x = y → yy_Y b H locs k tgt lv st) (kf : ¬ (x = y) → yy_Y b H locs k n lv st) : yy_Y b H locs k pc lv (.int y :: .int x :: st) := by
  subst hn
  intro ls hl
  exact lv_icmp_eq F.x F.c d ht (fun h => kt h ls hl) (fun h => kf h ls hl)
theorem yy_ic_eq_t (F : yy_A l z b rm cc nL own ret hh Post) {x y : Int32} {off : Int} {tgt : Nat} (d : decode cc pc = .ok (.if_icmp .eq off, 3)) (ht : (pc : Int) + off = (tgt : Int)) (h : x = y) (kt : yy_Y b H locs k tgt lv st) : yy_Y b H locs k pc lv (.int y :: .int x :: st) := yy_ic_eq F d rfl ht (fun _ => kt) (fun q => absurd h q)
theorem yy_ic_eq_f (F : yy_A l z b rm cc nL own ret hh Post) {x y : Int32} {off : Int} {tgt : Nat} (d : decode cc pc = .ok (.if_icmp .eq off, 3)) (hn : pc + 3 = n) (ht : (pc : Int) + off = (tgt : Int)) (h : ¬ (x = y)) (kf : yy_Y b H locs k n lv st) : yy_Y b H locs k pc lv (.int y :: .int x :: st) := yy_ic_eq F d hn ht (fun q => absurd q h) (fun _ => kf)
theorem yy_if_ne (F : yy_A l z b rm cc nL own ret hh Post) {x : Int32} {off : Int} {tgt : Nat} (d : decode cc pc = .ok (.ifCond .ne off, 3)) (hn : pc + 3 = n) (ht : (pc : Int) + off = (tgt : Int)) (kt : ¬ x = 0 → yy_Y b H locs k tgt lv st) (kf : x = 0 → yy_Y b H locs k n lv st) : yy_Y b H locs k pc lv (.int x :: st) := by
  subst hn
  intro ls hl
  exact lv_if_ne F.x F.c d ht (fun h => kt h ls hl) (fun h => kf h ls hl)
theorem yy_if_ne_t (F : yy_A l z b rm cc nL own ret hh Post) {x : Int32} {off : Int} {tgt : Nat} (d : decode cc pc = .ok (.ifCond .ne off, 3)) (ht : (pc : Int) + off = (tgt : Int)) (h : ¬ x = 0) (kt : yy_Y b H locs k tgt lv st) : yy_Y b H locs k pc lv (.int x :: st) := yy_if_ne F d rfl ht (fun _ => kt) (fun q => absurd q h)
theorem yy_if_ne_f (F : yy_A l z b rm cc nL own ret hh Post) {x : Int32} {off : Int} {tgt : Nat} (d : decode cc pc = .ok (.ifCond .ne off, 3)) (hn : pc + 3 = n) (ht : (pc : Int) + off = (tgt : Int)) (h : x = 0) (kf : yy_Y b H locs k n lv st) : yy_Y b H locs k pc lv (.int x :: st) := yy_if_ne F d hn ht (fun q => absurd h q) (fun _ => kf)
theorem yy_ic_ne (F : yy_A l z b rm cc nL own ret hh Post) {x y : Int32} {off : Int} {tgt : Nat} (d : decode cc pc = .ok (.if_icmp .ne off, 3)) (hn : pc + 3 = n) (ht : (pc : Int) + off = (tgt : Int)) (kt : ¬ x = y → yy_Y b H locs k tgt lv st) (kf : x = y → yy_Y b H locs k n lv st) : yy_Y b H locs k pc lv (.int y :: .int x :: st) := by
  subst hn
  intro ls hl
  exact lv_icmp_ne F.x F.c d ht (fun h => kt h ls hl) (fun h => kf h ls hl)
theorem yy_ic_ne_t (F : yy_A l z b rm cc nL own ret hh Post) {x y : Int32} {off : Int} {tgt : Nat} (d : decode cc pc = .ok (.if_icmp .ne off, 3)) (ht : (pc : Int) + off = (tgt : Int)) (h : ¬ x = y) (kt : yy_Y b H locs k tgt lv st) : yy_Y b H locs k pc lv (.int y :: .int x :: st) := yy_ic_ne F d rfl ht (fun _ => kt) (fun q => absurd q h)
theorem yy_ic_ne_f (F : yy_A l z b rm cc nL own ret hh Post) {x y : Int32} {off : Int} {tgt : Nat} (d : decode cc pc = .ok (.if_icmp .ne off, 3)) (hn : pc + 3 = n) (ht : (pc : Int) + off = (tgt : Int)) (h : x = y) (kf : yy_Y b H locs k n lv st) : yy_Y b H locs k pc lv (.int y :: .int x :: st) := yy_ic_ne F d hn ht (fun q => absurd h q) (fun _ => kf)
theorem yy_if_lt (F : yy_A l z b rm cc nL own ret hh Post) {x : Int32} {off : Int} {tgt : Nat} (d : decode cc pc = .ok (.ifCond .lt off, 3)) (hn : pc + 3 = n) (ht : (pc : Int) + off = (tgt : Int)) (kt : x < 0 → yy_Y b H locs k tgt lv st) (kf : ¬ (x < 0) → yy_Y b H locs k n lv st) : yy_Y b H locs k pc lv (.int x :: st) := by
  subst hn
  intro ls hl
  exact lv_if_lt F.x F.c d ht (fun h => kt h ls hl) (fun h => kf h ls hl)
theorem yy_if_lt_t (F : yy_A l z b rm cc nL own ret hh Post) {x : Int32} {off : Int} {tgt : Nat} (d : decode cc pc = .ok (.ifCond .lt off, 3)) (ht : (pc : Int) + off = (tgt : Int)) (h : x < 0) (kt : yy_Y b H locs k tgt lv st) : yy_Y b H locs k pc lv (.int x :: st) := yy_if_lt F d rfl ht (fun _ => kt) (fun q => absurd h q)
theorem yy_if_lt_f (F : yy_A l z b rm cc nL own ret hh Post) {x : Int32} {off : Int} {tgt : Nat} (d : decode cc pc = .ok (.ifCond .lt off, 3)) (hn : pc + 3 = n) (ht : (pc : Int) + off = (tgt : Int)) (h : ¬ (x < 0)) (kf : yy_Y b H locs k n lv st) : yy_Y b H locs k pc lv (.int x :: st) := yy_if_lt F d hn ht (fun q => absurd q h) (fun _ => kf)
theorem yy_ic_lt (F : yy_A l z b rm cc nL own ret hh Post) {x y : Int32} {off : Int} {tgt : Nat} (d : decode cc pc = .ok (.if_icmp .lt off, 3)) (hn : pc + 3 = n) (ht : (pc : Int) + off = (tgt : Int)) (kt : x < y → yy_Y b H locs k tgt lv st) (kf : ¬ (x < y) → yy_Y b H locs k n lv st) : yy_Y b H locs k pc lv (.int y :: .int x :: st) := by
  subst hn
  intro ls hl
  exact lv_icmp_lt F.x F.c d ht (fun h => kt h ls hl) (fun h => kf h ls hl)
theorem yy_ic_lt_t (F : yy_A l z b rm cc nL own ret hh Post) {x y : Int32} {off : Int} {tgt : Nat} (d : decode cc pc = .ok (.if_icmp .lt off, 3)) (ht : (pc : Int) + off = (tgt : Int)) (h : x < y) (kt : yy_Y b H locs k tgt lv st) : yy_Y b H locs k pc lv (.int y :: .int x :: st) := yy_ic_lt F d rfl ht (fun _ => kt) (fun q => absurd h q)
theorem yy_ic_lt_f (F : yy_A l z b rm cc nL own ret hh Post) {x y : Int32} {off : Int} {tgt : Nat} (d : decode cc pc = .ok (.if_icmp .lt off, 3)) (hn : pc + 3 = n) (ht : (pc : Int) + off = (tgt : Int)) (h : ¬ (x < y)) (kf : yy_Y b H locs k n lv st) : yy_Y b H locs k pc lv (.int y :: .int x :: st) := yy_ic_lt F d hn ht (fun q => absurd q h) (fun _ => kf)
theorem yy_if_ge (F : yy_A l z b rm cc nL own ret hh Post) {x : Int32} {off : Int} {tgt : Nat} (d : decode cc pc = .ok (.ifCond .ge off, 3)) (hn : pc + 3 = n) (ht : (pc : Int) + off = (tgt : Int)) (kt : 0 ≤ x → yy_Y b H locs k tgt lv st) (kf : ¬ (0 ≤ x) → yy_Y b H locs k n lv st) : yy_Y b H locs k pc lv (.int x :: st) := by
  subst hn
  intro ls hl
  exact lv_if_ge F.x F.c d ht (fun h => kt h ls hl) (fun h => kf h ls hl)
theorem yy_if_ge_t (F : yy_A l z b rm cc nL own ret hh Post) {x : Int32} {off : Int} {tgt : Nat} (d : decode cc pc = .ok (.ifCond .ge off, 3)) (ht : (pc : Int) + off = (tgt : Int)) (h : 0 ≤ x) (kt : yy_Y b H locs k tgt lv st) : yy_Y b H locs k pc lv (.int x :: st) := yy_if_ge F d rfl ht (fun _ => kt) (fun q => absurd h q)
theorem yy_if_ge_f (F : yy_A l z b rm cc nL own ret hh Post) {x : Int32} {off : Int} {tgt : Nat} (d : decode cc pc = .ok (.ifCond .ge off, 3)) (hn : pc + 3 = n) (ht : (pc : Int) + off = (tgt : Int)) (h : ¬ (0 ≤ x)) (kf : yy_Y b H locs k n lv st) : yy_Y b H locs k pc lv (.int x :: st) := yy_if_ge F d hn ht (fun q => absurd q h) (fun _ => kf)
theorem yy_ic_ge (F : yy_A l z b rm cc nL own ret hh Post) {x y : Int32} {off : Int} {tgt : Nat} (d : decode cc pc = .ok (.if_icmp .ge off, 3)) (hn : pc + 3 = n) (ht : (pc : Int) + off = (tgt : Int)) (kt : y ≤ x → yy_Y b H locs k tgt lv st) (kf : ¬ (y ≤ x) → yy_Y b H locs k n lv st) : yy_Y b H locs k pc lv (.int y :: .int x :: st) := by
  subst hn
  intro ls hl
  exact lv_icmp_ge F.x F.c d ht (fun h => kt h ls hl) (fun h => kf h ls hl)
theorem yy_ic_ge_t (F : yy_A l z b rm cc nL own ret hh Post) {x y : Int32} {off : Int} {tgt : Nat} (d : decode cc pc = .ok (.if_icmp .ge off, 3)) (ht : (pc : Int) + off = (tgt : Int)) (h : y ≤ x) (kt : yy_Y b H locs k tgt lv st) : yy_Y b H locs k pc lv (.int y :: .int x :: st) := yy_ic_ge F d rfl ht (fun _ => kt) (fun q => absurd h q)
theorem yy_ic_ge_f (F : yy_A l z b rm cc nL own ret hh Post) {x y : Int32} {off : Int} {tgt : Nat} (d : decode cc pc = .ok (.if_icmp .ge off, 3)) (hn : pc + 3 = n) (ht : (pc : Int) + off = (tgt : Int)) (h : ¬ (y ≤ x)) (kf : yy_Y b H locs k n lv st) : yy_Y b H locs k pc lv (.int y :: .int x :: st) := yy_ic_ge F d hn ht (fun q => absurd q h) (fun _ => kf)
theorem yy_if_gt (F : yy_A l z b rm cc nL own ret hh Post) {x : Int32} {off : Int} {tgt : Nat} (d : decode cc pc = .ok (.ifCond .gt off, 3)) (hn : pc + 3 = n) (ht : (pc : Int) + off = (tgt : Int)) (kt : 0 < x → yy_Y b H locs k tgt lv st) (kf : ¬ (0 < x) → yy_Y b H locs k n lv st) : yy_Y b H locs k pc lv (.int x :: st) := by
  subst hn
  intro ls hl
  exact lv_if_gt F.x F.c d ht (fun h => kt h ls hl) (fun h => kf h ls hl)
theorem yy_if_gt_t (F : yy_A l z b rm cc nL own ret hh Post) {x : Int32} {off : Int} {tgt : Nat} (d : decode cc pc = .ok (.ifCond .gt off, 3)) (ht : (pc : Int) + off = (tgt : Int)) (h : 0 < x) (kt : yy_Y b H locs k tgt lv st) : yy_Y b H locs k pc lv (.int x :: st) := yy_if_gt F d rfl ht (fun _ => kt) (fun q => absurd h q)
theorem yy_if_gt_f (F : yy_A l z b rm cc nL own ret hh Post) {x : Int32} {off : Int} {tgt : Nat} (d : decode cc pc = .ok (.ifCond .gt off, 3)) (hn : pc + 3 = n) (ht : (pc : Int) + off = (tgt : Int)) (h : ¬ (0 < x)) (kf : yy_Y b H locs k n lv st) : yy_Y b H locs k pc lv (.int x :: st) := yy_if_gt F d hn ht (fun q => absurd q h) (fun _ => kf)
theorem yy_ic_gt (F : yy_A l z b rm cc nL own ret hh Post) {x y : Int32} {off : Int} {tgt : Nat} (d : decode cc pc = .ok (.if_icmp .gt off, 3)) (hn : pc + 3 = n) (ht : (pc : Int) + off = (tgt : Int)) (kt : y < x → yy_Y b H locs k tgt lv st) (kf : ¬ (y < x) → yy_Y b H locs k n lv st) : yy_Y b H locs k pc lv (.int y :: .int x :: st) := by
  subst hn
  intro ls hl
  exact lv_icmp_gt F.x F.c d ht (fun h => kt h ls hl) (fun h => kf h ls hl)
theorem yy_ic_gt_t (F : yy_A l z b rm cc nL own ret hh Post) {x y : Int32} {off : Int} {tgt : Nat} (d : decode cc pc = .ok (.if_icmp .gt off, 3)) (ht : (pc : Int) + off = (tgt : Int)) (h : y < x) (kt : yy_Y b H locs k tgt lv st) : yy_Y b H locs k pc lv (.int y :: .int x :: st) := yy_ic_gt F d rfl ht (fun _ => kt) (fun q => absurd h q)
theorem yy_ic_gt_f (F : yy_A l z b rm cc nL own ret hh Post) {x y : Int32} {off : Int} {tgt : Nat} (d : decode cc pc = .ok (.if_icmp .gt off, 3)) (hn : pc + 3 = n) (ht : (pc : Int) + off = (tgt : Int)) (h : ¬ (y < x)) (kf : yy_Y b H locs k n lv st) : yy_Y b H locs k pc lv (.int y :: .int x :: st) := yy_ic_gt F d hn ht (fun q => absurd q h) (fun _ => kf)
theorem yy_if_le (F : yy_A l z b rm cc nL own ret hh Post) {x : Int32} {off : Int} {tgt : Nat} (d : decode cc pc = .ok (.ifCond .le off, 3)) (hn : pc + 3 = n) (ht : (pc : Int) + off = (tgt : Int)) (kt : x ≤ 0 → yy_Y b H locs k tgt lv st) (kf : ¬ (x ≤ 0) → yy_Y b H locs k n lv st) : yy_Y b H locs k pc lv (.int x :: st) := by
  subst hn
  intro ls hl
  exact lv_if_le F.x F.c d ht (fun h => kt h ls hl) (fun h => kf h ls hl)
theorem yy_if_le_t (F : yy_A l z b rm cc nL own ret hh Post) {x : Int32} {off : Int} {tgt : Nat} (d : decode cc pc = .ok (.ifCond .le off, 3)) (ht : (pc : Int) + off = (tgt : Int)) (h : x ≤ 0) (kt : yy_Y b H locs k tgt lv st) : yy_Y b H locs k pc lv (.int x :: st) := yy_if_le F d rfl ht (fun _ => kt) (fun q => absurd h q)
theorem yy_if_le_f (F : yy_A l z b rm cc nL own ret hh Post) {x : Int32} {off : Int} {tgt : Nat} (d : decode cc pc = .ok (.ifCond .le off, 3)) (hn : pc + 3 = n) (ht : (pc : Int) + off = (tgt : Int)) (h : ¬ (x ≤ 0)) (kf : yy_Y b H locs k n lv st) : yy_Y b H locs k pc lv (.int x :: st) := yy_if_le F d hn ht (fun q => absurd q h) (fun _ => kf)
theorem yy_ic_le (F : yy_A l z b rm cc nL own ret hh Post) {x y : Int32} {off : Int} {tgt : Nat} (d : decode cc pc = .ok (.if_icmp .le off, 3)) (hn : pc + 3 = n) (ht : (pc : Int) + off = (tgt : Int)) (kt : x ≤ y → yy_Y b H locs k tgt lv st) (kf : ¬ (x ≤ y) → yy_Y b H locs k n lv st) : yy_Y b H locs k pc lv (.int y :: .int x :: st) := by
  subst hn
  intro ls hl
  exact lv_icmp_le F.x F.c d ht (fun h => kt h ls hl) (fun h => kf h ls hl)
theorem yy_ic_le_t (F : yy_A l z b rm cc nL own ret hh Post) {x y : Int32} {off : Int} {tgt : Nat} (d : decode cc pc = .ok (.if_icmp .le off, 3)) (ht : (pc : Int) + off = (tgt : Int)) (h : x ≤ y) (kt : yy_Y b H locs k tgt lv st) : yy_Y b H locs k pc lv (.int y :: .int x :: st) := yy_ic_le F d rfl ht (fun _ => kt) (fun q => absurd h q)
theorem yy_ic_le_f (F : yy_A l z b rm cc nL own ret hh Post) {x y : Int32} {off : Int} {tgt : Nat} (d : decode cc pc = .ok (.if_icmp .le off, 3)) (hn : pc + 3 = n) (ht : (pc : Int) + off = (tgt : Int)) (h : ¬ (x ≤ y)) (kf : yy_Y b H locs k n lv st) : yy_Y b H locs k pc lv (.int y :: .int x :: st) := yy_ic_le F d hn ht (fun q => absurd q h) (fun _ => kf)
theorem yy_goto (F : yy_A l z b rm cc nL own ret hh Post) {off : Int} {tgt : Nat} (d : decode cc pc = .ok (.goto off, 3)) (ht : (pc : Int) + off = (tgt : Int)) (kk : yy_Y b H locs k tgt lv st) : yy_Y b H locs k pc lv st := by
  intro ls hl
  exact lv_goto F.x F.c d ht (kk ls hl)
theorem yy_ifnonnull_t (F : yy_A l z b rm cc nL own ret hh Post) {x : Nat} {off : Int} {tgt : Nat} (d : decode cc pc = .ok (.ifnonnull off, 3)) (ht : (pc : Int) + off = (tgt : Int)) (kk : yy_Y b H locs k tgt lv st) : yy_Y b H locs k pc lv (.ref x :: st) := by
  intro ls hl
  exact lv_ifnonnull F.x F.c d ht (kk ls hl)
theorem yy_ifnull_f (F : yy_A l z b rm cc nL own ret hh Post) {x : Nat} {off : Int} (d : decode cc pc = .ok (.ifnull off, 3)) (hn : pc + 3 = n) (kk : yy_Y b H locs k n lv st) : yy_Y b H locs k pc lv (.ref x :: st) := by
  subst hn
  intro ls hl
  exact lv_ifnull F.x F.c d (kk ls hl)
theorem yy_ifnull_t (F : yy_A l z b rm cc nL own ret hh Post) {off : Int} {tgt : Nat} (d : decode cc pc = .ok (.ifnull off, 3)) (ht : (pc : Int) + off = (tgt : Int)) (kk : yy_Y b H locs k tgt lv st) : yy_Y b H locs k pc lv (.null :: st) := by
  intro ls hl
  exact lv_ifnullN F.x F.c d ht (kk ls hl)
theorem yy_ifnonnull_f (F : yy_A l z b rm cc nL own ret hh Post) {off : Int} (d : decode cc pc = .ok (.ifnonnull off, 3)) (hn : pc + 3 = n) (kk : yy_Y b H locs k n lv st) : yy_Y b H locs k pc lv (.null :: st) := by
  subst hn
  intro ls hl
  exact lv_ifnonnullN F.x F.c d (kk ls hl)
theorem yy_topi {x : Int32} (kk : ∀ y : Int32, y = x → yy_Y b H locs k pc lv (.int y :: st)) : yy_Y b H locs k pc lv (.int x :: st) := kk x rfl
theorem yy_widen {k' : Nat × Nat} (h1 : k.1 ≤ k'.1) (h2 : k.2 ≤ k'.2) (kk : yy_Y b H locs k' pc lv st) : yy_Y b H locs k pc lv st := fun ls hl => W.widen h1 h2 (kk ls hl)
theorem yy_sub (js : List Nat) (hl' : lv_pick lv js = lv') (kk : yy_Y b H locs k pc lv' st) : yy_Y b H locs k pc lv st := fun ls hl => kk ls (lv_sub hl js hl')
end YRa
end YR
end
section
/-! PART ops: ends, throws, fields, arrays, calls over the bundled judgement -/
section YO
section YOa
variable {l : Launch} {z : State} {b : yy_T} {rm : Room} {cc : ByteArray} {nL : Nat} {own : String} {ret : Option FieldType} {hh : List (Nat × Nat × Nat × Nat)} {Post : yy_R → Heap → Prop}
variable {H : Heap} {locs : List Loc} {k : Nat × Nat} {pc n : Nat} {lv lv' : List (Nat × Value)} {st : List Value}
theorem yy_iret (F : yy_A l z b rm cc nL own ret hh Post) (hS : yy_S z H locs) (hk : k.1 ≤ rm.cells ∧ k.2 ≤ rm.slots) {v : Int32} (hr : ret = some .int) (d : decode cc pc = .ok (.ireturn, 1)) (hp : Post (.inl (some (.int v))) H) : yy_Y b H locs k pc lv [.int v] := by
  intro ls hl T hT X
  obtain ⟨t, a1, o, b1, b2, ⟨rfl, h9⟩, L, hF, hL⟩ := (W.iret (Qc := fun _ _ o t => o = .returned (some (.int v)) ∧ t.heap = H) (free := fun q => z.heap.size ≤ q) F.x F.c (F.rt.trans hr) (fun t ht _ => ⟨rfl, ht⟩) hS.2.2 d F.lk) T hT X
  refine ⟨t, a1, ?_⟩
  rw [F.q]
  exact ⟨_, b1, b2, .inl (some (.int v)), L, rfl, by rw [h9]; exact hp, hF.2.1, hF.2.2.mono hk.1 hk.2, hL⟩
theorem yy_zret (F : yy_A l z b rm cc nL own ret hh Post) (hS : yy_S z H locs) (hk : k.1 ≤ rm.cells ∧ k.2 ≤ rm.slots) {v : Int32} {ty : FieldType} (hr : ret = some ty) (hn : narrow ty (.int v) = .int v) (d : decode cc pc = .ok (.ireturn, 1)) (hp : Post (.inl (some (.int v))) H) : yy_Y b H locs k pc lv [.int v] := by
  intro ls hl T hT X
  obtain ⟨t, a1, o, b1, b2, ⟨rfl, h9⟩, L, hF, hL⟩ := (W.zret (Qc := fun _ _ o t => o = .returned (some (.int v)) ∧ t.heap = H) (free := fun q => z.heap.size ≤ q) F.x F.c (F.rt.trans hr) hn (fun t ht _ => ⟨rfl, ht⟩) hS.2.2 d F.lk) T hT X
  refine ⟨t, a1, ?_⟩
  rw [F.q]
  exact ⟨_, b1, b2, .inl (some (.int v)), L, rfl, by rw [h9]; exact hp, hF.2.1, hF.2.2.mono hk.1 hk.2, hL⟩
theorem yy_vret (F : yy_A l z b rm cc nL own ret hh Post) (hS : yy_S z H locs) (hk : k.1 ≤ rm.cells ∧ k.2 ≤ rm.slots) (hr : ret = none) (d : decode cc pc = .ok (.return_, 1)) (hp : Post (.inl none) H) : yy_Y b H locs k pc lv [] := by
  intro ls hl T hT X
  obtain ⟨t, a1, o, b1, b2, ⟨rfl, h9⟩, L, hF, hL⟩ := (W.vret (Qc := fun _ _ o t => o = .returned none ∧ t.heap = H) (free := fun q => z.heap.size ≤ q) F.x F.c (F.rt.trans hr) (fun t ht _ => ⟨rfl, ht⟩) hS.2.2 d F.lk) T hT X
  refine ⟨t, a1, ?_⟩
  rw [F.q]
  exact ⟨_, b1, b2, .inl none, L, rfl, by rw [h9]; exact hp, hF.2.1, hF.2.2.mono hk.1 hk.2, hL⟩
theorem yy_aret (F : yy_A l z b rm cc nL own ret hh Post) (hS : yy_S z H locs) (hk : k.1 ≤ rm.cells ∧ k.2 ≤ rm.slots) {v : Value} {nm : String} (hr : ret = some (.object nm)) (hv : v = .null ∨ ∃ a, v = .ref a) (d : decode cc pc = .ok (.areturn, 1)) (hp : Post (.inl (some v)) H) : yy_Y b H locs k pc lv [v] := by
  intro ls hl T hT X
  obtain ⟨t, a1, o, b1, b2, ⟨rfl, h9⟩, L, hF, hL⟩ := (W.aret (Qc := fun _ _ o t => o = .returned (some v) ∧ t.heap = H) (free := fun q => z.heap.size ≤ q) F.x F.c (F.rt.trans hr) (Or.inl ⟨nm, rfl⟩) hv (fun t ht _ => ⟨rfl, ht⟩) hS.2.2 d F.lk) T hT X
  refine ⟨t, a1, ?_⟩
  rw [F.q]
  exact ⟨_, b1, b2, .inl (some v), L, rfl, by rw [h9]; exact hp, hF.2.1, hF.2.2.mono hk.1 hk.2, hL⟩
/-- what is thrown leaves a method that has no handlers -/
theorem yy_out (F : yy_A l z b rm cc nL own ret [] Post) (hS : yy_S z H locs) (hk : k.1 ≤ rm.cells ∧ k.2 ≤ rm.slots) {E : String} {q : Addr} {ce : Cell} (hce : H[q]? = some ce) (hv : ce.vm = .none) (hcl : (yy_s b).vm.findClass E = some ce.cls) (hp : Post (.inr E) H) : yy_V b H locs k pc lv st q := by
  intro ls hl T hT X
  have hout : ∀ x ∈ (yy_c b).exceptionTable.toList, covers x pc = false := by
    rw [F.tb]
    intro x hx
    cases hx
  obtain ⟨st1, hrun, hend, hW, hsm⟩ := X.leaveThrown q (g := F0 (yy_m b) pc ls st) rfl rfl rfl hout F.lk
  refine ⟨_, st1, ?_⟩
  rw [F.q]
  refine ⟨.threw q, hrun, hend, .inr E, locs, ⟨q, ce, rfl, ?_, hv, hcl⟩, ?_, hW, hsm.mono hk.1 hk.2, hS.2.2⟩
  · show T.heap[q]? = some ce
    rw [hT]; exact hce
  · show Post (.inr E) T.heap
    rw [hT]; exact hp
/-- a body's walk gives its contract -/
theorem yy_body {y : MethodName} {bytes : ByteArray} {maxL : Nat} {av : List Value} {Pre : Heap → Prop} {PostM : yy_R → Heap → Heap → Prop} (hy : plainFor y = true) (hlen : (lg_sl av).length ≤ maxL)
    (body : ∀ (b : yy_T) (H : Heap), yy_A l z b rm bytes maxL y.cls ret [] (fun r H1 => PostM r H H1) → yy_S z H [] → Pre H → (yy_s b).heap = H → (∀ t : String, y.name = t → (yy_t b).name = t) → yy_Y b H [] (0, 0) 0 (lv_args 0 av) []) :
    yy_M l z y (.code y bytes maxL ret) rm av Pre PostM := by
  refine MetFree.of_bodySF (code := bytes) (maxLocals := maxL) (ret := ret) hy ?_ ?_
  · intro args s m h hn
    obtain ⟨meth, c, h1, h2, h3, h4, h5, h6, -, -⟩ := Cond.code_spec hn (atoms_spec (ws := [.code y bytes maxL ret]) h _ List.mem_cons_self)
    exact ⟨meth, c, h1, h2, h3, h4, h5, h6⟩
  · intro p e s m args below meth c s₁ B hml hP _
    obtain ⟨rfl, hN, hPre⟩ := hP
    have hh0 : s₁.heap = s.heap := by rw [B.state]; rfl
    have ht : c.exceptionTable.toList = tableOf [] := by
      obtain ⟨meth9, c9, h1, h2, -, -, -, -, h7, -⟩ := Cond.code_spec B.named (atoms_spec (ws := [.code y bytes maxL ret]) B.pre _ List.mem_cons_self)
      cases Option.some.inj (h1.symm.trans B.method)
      cases Option.some.inj (h2.symm.trans (Stand.of_body B).code)
      rw [Array.isEmpty_iff.mp h7]
      rfl
    have hl := lv_entry av (n := maxL) hlen
    have hnm : ∀ t : String, y.name = t → meth.name = t := fun t ht => ht ▸ (name_of_methodNamed B.named B.method).1
    have key := body (p, l, e, rm, s, m, av.toArray, below, meth, c, maxL, yy_Q z rm below (fun r H1 => PostM r s.heap H1) s) s.heap ⟨rfl, rfl, B.exec, B.bytes, hml, rfl, findClass_of_methodNamed B.named, hN, B.notSynchronized, B.returns, ht, rfl⟩ hN.S hPre rfl hnm _ hl
    obtain ⟨t, a1, o, b1, b2, b3⟩ := key s₁ hh0 (Stand.of_body B)
    refine ⟨t, o, ?_, b1, b2, b3⟩
    rw [lg_entry_eq]
    exact a1
/-- the same for a method with handlers -/
theorem yy_bodyW {y : MethodName} {bytes : ByteArray} {maxL : Nat} {av : List Value} {Pre : Heap → Prop} {PostM : yy_R → Heap → Heap → Prop} (hy : plainName y.cls = true) (hlen : (lg_sl av).length ≤ maxL)
    (body : ∀ (b : yy_T) (H : Heap), yy_A l z b rm bytes maxL y.cls ret hh (fun r H1 => PostM r H H1) → yy_S z H [] → Pre H → (yy_s b).heap = H → yy_Y b H [] (0, 0) 0 (lv_args 0 av) []) :
    yy_M l z y (.codeWith y bytes maxL ret hh) rm av Pre PostM := by
  refine MetFree.of_bodyS (code := bytes) (maxLocals := maxL) (ret := ret) hy ?_ ?_
  · intro args s m h hn
    obtain ⟨m9, meth, c, hn9, h1, h2, h3, h4, -, h5, h6, -⟩ := Cond.codeWith_spec (atoms_spec (ws := [.codeWith y bytes maxL ret hh]) h _ List.mem_cons_self)
    cases hn.symm.trans hn9
    exact ⟨meth, c, h1, h2, h3, h4, h5, h6⟩
  · intro p e s m args below meth c s₁ B hml hP _
    obtain ⟨rfl, hN, hPre⟩ := hP
    have hh0 : s₁.heap = s.heap := by rw [B.state]; rfl
    have ht : c.exceptionTable.toList = tableOf hh := by
      obtain ⟨m9, meth9, c9, hn9, h1, h2, -, -, h6, -⟩ := Cond.codeWith_spec (atoms_spec (ws := [.codeWith y bytes maxL ret hh]) B.pre _ List.mem_cons_self)
      cases Option.some.inj (hn9.symm.trans B.named)
      cases Option.some.inj (h1.symm.trans B.method)
      cases Option.some.inj (h2.symm.trans (Stand.of_body B).code)
      rw [← h6, table_eq]
    have hl := lv_entry av (n := maxL) hlen
    have key := body (p, l, e, rm, s, m, av.toArray, below, meth, c, maxL, yy_Q z rm below (fun r H1 => PostM r s.heap H1) s) s.heap ⟨rfl, rfl, B.exec, B.bytes, hml, rfl, findClass_of_methodNamed B.named, hN, B.notSynchronized, B.returns, ht, rfl⟩ hN.S hPre rfl _ hl
    obtain ⟨t, a1, o, b1, b2, b3⟩ := key s₁ hh0 (Stand.of_body B)
    refine ⟨t, o, ?_, b1, b2, b3⟩
    rw [lg_entry_eq]
    exact a1
end YOa
end YO
end
section
/-! PART heap: fields, arrays, new objects over the bundled judgement; the frame is said cell by cell -/
section YH
theorem yy_S.put {z : State} {H H1 : Heap} {locs : List Loc} {a i : Nat} (hS : yy_S z H locs) (e2 : H1.size = H.size) (e3 : ∀ q : Nat, q ≠ a → H1[q]? = H[q]?) (ha : z.heap.size ≤ a) : yy_S z H1 (locs ++ [⟨a, i⟩]) :=
  ⟨by rw [e2]; exact hS.1, fun q h => (e3 q (fun h9 => Nat.not_le.mpr h (h9 ▸ ha))).trans (hS.2.1 q h), fun q hq => by
    rcases List.mem_append.mp hq with h | h
    · exact hS.2.2 q h
    · rw [List.mem_singleton.mp h]; exact ha⟩
theorem yy_S.new {z : State} {H H1 : Heap} {locs : List Loc} (hS : yy_S z H locs) (e2 : H1.size = H.size + 1) (e3 : ∀ q : Nat, q < H.size → H1[q]? = H[q]?) : yy_S z H1 locs :=
  ⟨by rw [e2]; exact Nat.le_succ_of_le hS.1, fun q h => (e3 q (Nat.lt_of_lt_of_le h hS.1)).trans (hS.2.1 q h), hS.2.2⟩
theorem yy_P1 {D : va_G} {cl : List vw_C} {q : Nat × va_E} {H : Heap} (h : va_at D cl q H) : va_P D cl [q] H := fun k x hx => by
  have hz : k < 1 := (List.getElem?_eq_some_iff.mp hx).1
  rw [show k = 0 by omega] at hx
  cases hx
  exact h
/-- the tables' words of a field's use: by this class, at this pool index, of an object of class ci its field j -/
def yy_G (Ts : List Cond) (cl : List vw_C) (own : String) (idx ci j : Nat) : Prop := ∃ (C : String) (T : u_T) (N : Nat) (ref : String), cl[ci]? = some (C, T, N) ∧ j < N ∧ (∀ w ∈ u_ws C T N, w ∈ Ts ∧ goodWord w = true) ∧
  (Cond.fieldLink own idx ref (T j).2.1 (T j).2.2.1 ∈ Ts ∨ ∃ host : String, Cond.fieldLinkNest own idx ref (T j).2.1 (T j).2.2.1 host ∈ Ts) ∧ (ref = (T j).1 ∨ Cond.sameField ref (T j).1 (T j).2.1 (T j).2.2.1 ∈ Ts)
/-- and of a class's fields: their types, their names apart -/
def yy_Gt (cl : List vw_C) (ci : Nat) (ty : Nat → FieldType) : Prop := ∃ (C : String) (T : u_T) (N : Nat), cl[ci]? = some (C, T, N) ∧ (∀ k, k < N → parseFieldDescriptor (T k).2.2.1 = some (ty k)) ∧ ∀ a, a < N → ∀ b, b < N → a ≠ b → (T a).2.1 ≠ (T b).2.1
section YHa
variable {l : Launch} {z : State} {b : yy_T} {rm : Room} {cc : ByteArray} {nL : Nat} {own : String} {ret : Option FieldType} {hh : List (Nat × Nat × Nat × Nat)} {Post : yy_R → Heap → Prop}
variable {H : Heap} {locs : List Loc} {k : Nat × Nat} {pc n : Nat} {lv lv' : List (Nat × Value)} {st : List Value}
variable {Ts : List Cond} {a0 : Array Value} {D : va_G} {cl : List vw_C} {tys : List (ClassId × FieldType)} {a ci idx j : Nat} {fs : List Value} {v : Value}
theorem yy_get (F : yy_A l z b rm cc nL own ret hh Post) (hC : ∀ w ∈ Ts, w.before a0 z = true) (hK : va_K D cl tys z) (G : yy_G Ts cl own idx ci j) (O : va_at D cl (a, .inr (ci, fs)) H) (hv : fs[j]? = some v) (d : decode cc pc = .ok (.getfield idx, 3)) (hn : pc + 3 = n) (kk : yy_Y b H locs k n lv (v :: st)) : yy_Y b H locs k pc lv (.ref a :: st) := by
  subst hn
  intro ls hl
  obtain ⟨C, T, N, ref, hc, hj, hw, hlink, hsame⟩ := G
  have hts : ∀ w ∈ u_ws C T N, w.before (yy_a b) (yy_s b) = true := fun w h => F.N.w hC (hw w h).1 (hw w h).2
  have hKs : va_K D cl tys (yy_s b) := hK.moved F.N.1.alike
  have hs9 : ∀ x, (yy_s b).fieldFound? (T j).1 (T j).2.1 (T j).2.2.1 = some x → (yy_s b).fieldFound? ref (T j).2.1 (T j).2.2.1 = some x := by
    rcases hsame with h | h
    · intro x hx
      rw [h]; exact hx
    · exact fun x hx => u_same (args := yy_a b) (F.N.w hC h rfl) x hx
  rcases hlink with h | ⟨host, h⟩
  · exact va_get F.x F.c hts (fun _ h => h) F.ow hKs (yy_P1 O) 0 rfl hc j hj (F.N.w hC h rfl) hs9 hv d (kk ls hl)
  · exact va_getN F.x F.c hts (fun _ h => h) F.ow hKs (yy_P1 O) 0 rfl hc j hj (va_Nw.use rfl (va_Nw.warmF F.N.1 (va_Nw.of rfl (hC _ h)))) hs9 hv d (kk ls hl)
theorem yy_put (F : yy_A l z b rm cc nL own ret hh Post) (hC : ∀ w ∈ Ts, w.before a0 z = true) (hK : va_K D cl tys z) (G : yy_G Ts cl own idx ci j) {ty : Nat → FieldType} (Gt : yy_Gt cl ci ty) (hfin : ∀ (C : String) (T : u_T) (N : Nat), cl[ci]? = some (C, T, N) → (T j).2.2.2 = false)
    (hS : yy_S z H locs) (ha : z.heap.size ≤ a) (O : va_at D cl (a, .inr (ci, fs)) H) (hnv : narrow (ty j) v = v) (hfit : fits (ty j) v = true) (hlen : j < fs.length) (d : decode cc pc = .ok (.putfield idx, 3)) (hn : pc + 3 = n)
    (kk : ∀ (H1 : Heap) (locs1 : List Loc), va_at D cl (a, .inr (ci, fs.set j v)) H1 → H1.size = H.size → (∀ q : Nat, q ≠ a → H1[q]? = H[q]?) → yy_S z H1 locs1 → yy_Y b H1 locs1 k n lv st) : yy_Y b H locs k pc lv (v :: .ref a :: st) := by
  subst hn
  intro ls hl
  obtain ⟨C, T, N, ref, hc, hj, hw, hlink, hsame⟩ := G
  obtain ⟨C', T', N', hc', hty, hnm⟩ := Gt
  cases Option.some.inj (hc.symm.trans hc')
  have hf := hfin C T N hc
  have hts : ∀ w ∈ u_ws C T N, w.before (yy_a b) (yy_s b) = true := fun w h => F.N.w hC (hw w h).1 (hw w h).2
  have hKs : va_K D cl tys (yy_s b) := hK.moved F.N.1.alike
  have hs9 : ∀ x, (yy_s b).fieldFound? (T j).1 (T j).2.1 (T j).2.2.1 = some x → (yy_s b).fieldFound? ref (T j).2.1 (T j).2.2.1 = some x := by
    rcases hsame with h | h
    · intro x hx
      rw [h]; exact hx
    · exact fun x hx => u_same (args := yy_a b) (F.N.w hC h rfl) x hx
  have hap := va_apart (own := own) hts (fun _ h => h) ty hty hnm hKs hc
  obtain ⟨r, h1, cell, q1, q2, q3, q4⟩ := O
  have hr : r = (C, T, N) := Option.some.inj (h1.symm.trans hc)
  subst hr
  obtain ⟨hSl, hfc, kC, hkC, hkind⟩ := hKs.1 ci _ hc
  obtain ⟨cf, kf, fi, f, hi, hsl⟩ := hSl j hj
  have hlay := hts _ (u_in_lay hj)
  unfold u_lay at hlay
  rw [if_neg (by rw [hf]; decide)] at hlay
  have hst := (u_facts hfc hkC (u_lays hts (fun _ h => h) hj) hi).1
  have h6 := u_store hfc hkC hkind hlay hi (hty j hj) hnv hfit
  have fin : ∀ H' : Heap, H'[a]? = some (cell.setSlot f.slot v) → H'.size = H.size → (∀ q, q ≠ a → H'[q]? = H[q]?) → W (yy_p b) (yy_l b) (yy_e b) (yy_r b) (yy_s b) (yy_m b) (yy_a b) (yy_b b) (yy_t b) (yy_c b) H' (locs ++ [⟨a, f.slot⟩]) k.1 k.2 (yy_q b) (F0 (yy_m b) (pc + 3) ls st) := by
    intro H' e1 e2 e3
    rw [hsl] at e1
    exact kk H' _ ⟨_, hc, t_OB.to (V := updV (vp_V fs) j v) ⟨_, e1, q2, q3, t_set q4 hap hj v⟩ (fun i _ => vp_updV_set hlen v i)⟩ e2 e3 (hS.put e2 e3 ha) ls hl
  rcases hlink with h | ⟨host, h⟩
  · exact W.putK F.x F.c (f := f) ⟨F.ow, F.N.w hC h rfl, ⟨_, _, _, hs9 _ hi⟩, hst⟩ (by rw [q2]; exact h6) q1 q3 (by rw [hsl]; exact k2_hasslot (q4 j hj)) rfl rfl d fin
  · exact va_WputK F.x F.c (f := f) F.ow (va_Nw.use rfl (va_Nw.warmF F.N.1 (va_Nw.of rfl (hC _ h)))) (hs9 _ hi) hst (by rw [q2]; exact h6) q1 q3 (by rw [hsl]; exact k2_hasslot (q4 j hj)) rfl rfl d fin
/-- a final field, in its class's constructor -/
theorem yy_putF (F : yy_A l z b rm cc nL own ret hh Post) (hC : ∀ w ∈ Ts, w.before a0 z = true) (hK : va_K D cl tys z) (G : yy_G Ts cl own idx ci j) {ty : Nat → FieldType} (Gt : yy_Gt cl ci ty) (hfin : ∀ (C : String) (T : u_T) (N : Nat), cl[ci]? = some (C, T, N) → (T j).2.2.2 = true ∧ (T j).1 = own) (hin : (yy_t b).name = "<init>")
    (hlk : ∀ (C : String) (T : u_T) (N : Nat), cl[ci]? = some (C, T, N) → Cond.fieldLink own idx own (T j).2.1 (T j).2.2.1 ∈ Ts)
    (hS : yy_S z H locs) (ha : z.heap.size ≤ a) (O : va_at D cl (a, .inr (ci, fs)) H) (hnv : narrow (ty j) v = v) (hfit : fits (ty j) v = true) (hlen : j < fs.length) (d : decode cc pc = .ok (.putfield idx, 3)) (hn : pc + 3 = n)
    (kk : ∀ (H1 : Heap) (locs1 : List Loc), va_at D cl (a, .inr (ci, fs.set j v)) H1 → H1.size = H.size → (∀ q : Nat, q ≠ a → H1[q]? = H[q]?) → yy_S z H1 locs1 → yy_Y b H1 locs1 k n lv st) : yy_Y b H locs k pc lv (v :: .ref a :: st) := by
  subst hn
  intro ls hl
  obtain ⟨C, T, N, ref, hc, hj, hw, -, -⟩ := G
  obtain ⟨C', T', N', hc', hty, hnm⟩ := Gt
  cases Option.some.inj (hc.symm.trans hc')
  obtain ⟨hf, hdecl⟩ := hfin C T N hc
  have hlink := hlk C T N hc
  have hts : ∀ w ∈ u_ws C T N, w.before (yy_a b) (yy_s b) = true := fun w h => F.N.w hC (hw w h).1 (hw w h).2
  have hKs : va_K D cl tys (yy_s b) := hK.moved F.N.1.alike
  have hap := va_apart (own := own) hts (fun _ h => h) ty hty hnm hKs hc
  obtain ⟨r, h1, cell, q1, q2, q3, q4⟩ := O
  have hr : r = (C, T, N) := Option.some.inj (h1.symm.trans hc)
  subst hr
  obtain ⟨hSl, hfc, kC, hkC, hkind⟩ := hKs.1 ci _ hc
  obtain ⟨cf, kf, fi, f, hi, hsl⟩ := hSl j hj
  have hlay := hts _ (u_in_lay hj)
  unfold u_lay at hlay
  rw [if_pos hf] at hlay
  have hst := (u_facts hfc hkC (u_lays hts (fun _ h => h) hj) hi).1
  have hcf : (yy_m b).cls = cf := by
    obtain ⟨_, _, c', _, _, _, -, -, hf', -, -, -, hown2, -⟩ := Cond.laysFinal_spec hlay
    have e1 : c' = cf := by have := hi.symm.trans hf'; simp at this; exact this.1.symm
    rw [hdecl] at hown2
    rw [← e1]; exact Option.some.inj (F.ow.symm.trans hown2)
  have h6 := u_fits hfc hkC hkind (Or.inr hlay) hi (hty j hj) hnv hfit
  have hi9 : (yy_s b).fieldFound? own (T j).2.1 (T j).2.2.1 = some (cf, kf, fi, f) := by rw [← hdecl]; exact hi
  refine W.putFinK F.x F.c F.ow (F.N.w hC hlink rfl) hi9 hst hcf hin (by rw [q2]; exact h6) q1 q3 (by rw [hsl]; exact k2_hasslot (q4 j hj)) rfl rfl d fun H' e1 e2 e3 => ?_
  rw [hsl] at e1
  exact kk H' _ ⟨_, hc, t_OB.to (V := updV (vp_V fs) j v) ⟨_, e1, q2, q3, t_set q4 hap hj v⟩ (fun i _ => vp_updV_set hlen v i)⟩ e2 e3 (hS.put e2 e3 ha) ls hl
variable {cA : ClassId} {N t0 : Nat} {f : Nat → Int32} {i x : Int32}
theorem yy_iald (F : yy_A l z b rm cc nL own ret hh Post) (hK : va_K D cl tys z) (t0 : Nat) (ht : tys[t0]? = some (cA, .int)) (O : va_at D cl (a, .inl (cA, N, .inl f)) H) (hi : vp_in i N) (d : decode cc pc = .ok (.iaload, 1)) (hn : pc + 1 = n) (kk : yy_Y b H locs k n lv (.int (f i.toNatClampNeg) :: st)) : yy_Y b H locs k pc lv (.int i :: .ref a :: st) := by
  subst hn
  intro ls hl
  exact va_iald F.x F.c (hK.moved F.N.1.alike) (yy_P1 O) 0 t0 rfl ht hi d (kk ls hl)
theorem yy_iast (F : yy_A l z b rm cc nL own ret hh Post) (hK : va_K D cl tys z) (t0 : Nat) (ht : tys[t0]? = some (cA, .int)) (hS : yy_S z H locs) (ha : z.heap.size ≤ a) (O : va_at D cl (a, .inl (cA, N, .inl f)) H) (hi : vp_in i N) (d : decode cc pc = .ok (.iastore, 1)) (hn : pc + 1 = n)
    (kk : ∀ (H1 : Heap) (locs1 : List Loc), va_at D cl (a, .inl (cA, N, .inl (upd f i.toNatClampNeg x))) H1 → H1.size = H.size → (∀ q : Nat, q ≠ a → H1[q]? = H[q]?) → yy_S z H1 locs1 → yy_Y b H1 locs1 k n lv st) : yy_Y b H locs k pc lv (.int x :: .int i :: .ref a :: st) := by
  subst hn
  intro ls hl
  have hKs : va_K D cl tys (yy_s b) := hK.moved F.N.1.alike
  refine W.iast F.x F.c O ((hKs.2 t0 _ ht).1 N (fun j => .int (f j))) (fun q => by cases q) (by show ¬ (i < 0 ∨ (arrV _ _ _).slots.size ≤ _); rw [arrV_size]; exact hi) rfl rfl d fun H1 e zz oq => ?_
  refine kk H1 _ ?_ zz oq (hS.put zz oq ha) ls hl
  show H1[a]? = some (vp_cell _ _)
  rw [e]
  rw [vp_cell_i, vp_cell_i, arrV_store]
  congr 2
  funext q
  by_cases hq : q = i.toNatClampNeg
  · subst hq
    simp [updV, upd]
  · simp [updV, upd, hq]
theorem yy_alen (F : yy_A l z b rm cc nL own ret hh Post) (hK : va_K D cl tys z) {ty : FieldType} {X : vp_A} (t0 : Nat) (ht : tys[t0]? = some (cA, ty)) (O : va_at D cl (a, .inl (cA, X)) H) (hv : Int32.ofNat X.1 = x) (d : decode cc pc = .ok (.arraylength, 1)) (hn : pc + 1 = n) (kk : yy_Y b H locs k n lv (.int x :: st)) : yy_Y b H locs k pc lv (.ref a :: st) := by
  subst hn
  intro ls hl
  exact va_alen F.x F.c (hK.moved F.N.1.alike) (yy_P1 O) 0 t0 rfl ht hv d (kk ls hl)
variable {g : Nat → Option Nat} {C : String}
theorem yy_aald (F : yy_A l z b rm cc nL own ret hh Post) (hK : va_K D cl tys z) (t0 : Nat) (ht : tys[t0]? = some (cA, .object C)) (O : va_at D cl (a, .inl (cA, N, .inr (.inr (.inr (.inr g))))) H) (hi : vp_in i N) (d : decode cc pc = .ok (.aaload, 1)) (hn : pc + 1 = n) (kk : yy_Y b H locs k n lv (va_rf (g i.toNatClampNeg) :: st)) : yy_Y b H locs k pc lv (.int i :: .ref a :: st) := by
  subst hn
  intro ls hl
  exact va_aldq F.x F.c (hK.moved F.N.1.alike) (yy_P1 O) 0 t0 rfl ht hi d (kk ls hl)
end YHa
end YH
end
section
/-! PART calls: calls over the bundled judgement -/
section YC
/-- posts of one shape -/
def yy_pi (φ : Int32 → Heap → Heap → Prop) : yy_R → Heap → Heap → Prop := fun r H H1 => ∃ x : Int32, r = .inl (some (.int x)) ∧ φ x H H1
def yy_pv (φ : Heap → Heap → Prop) : yy_R → Heap → Heap → Prop := fun r H H1 => r = .inl none ∧ φ H H1
def yy_pr (φ : Option Nat → Heap → Heap → Prop) : yy_R → Heap → Heap → Prop := fun r H H1 => ∃ x : Option Nat, r = .inl (some (va_rf x)) ∧ φ x H H1
/-- or a throw -/
def yy_px (P : yy_R → Heap → Heap → Prop) (χ : String → Heap → Heap → Prop) : yy_R → Heap → Heap → Prop := fun r H H1 => P r H H1 ∨ ∃ E : String, r = .inr E ∧ χ E H H1
/-- it reads alone -/
def yy_ri (v : Int32) : yy_R → Heap → Heap → Prop := yy_pi (fun x H H1 => x = v ∧ H1 = H)
def yy_rr (v : Option Nat) : yy_R → Heap → Heap → Prop := yy_pr (fun x H H1 => x = v ∧ H1 = H)
def yy_rv : yy_R → Heap → Heap → Prop := yy_pv (fun H H1 => H1 = H)
/-- a heap that has grown alone -/
def yy_ext (H H1 : Heap) : Prop := H.size ≤ H1.size ∧ ∀ q : Nat, q < H.size → H1[q]? = H[q]?
theorem yy_ext.rf {H : Heap} : yy_ext H H := ⟨Nat.le_refl _, fun _ _ => rfl⟩
theorem yy_ext.tr {H H1 H2 : Heap} (h : yy_ext H H1) (h2 : yy_ext H1 H2) : yy_ext H H2 := ⟨Nat.le_trans h.1 h2.1, fun q hq => (h2.2 q (Nat.lt_of_lt_of_le hq h.1)).trans (h.2 q hq)⟩
theorem yy_ext.at {D : va_G} {cl : List vw_C} {q : Nat × va_E} {H H1 : Heap} (h : yy_ext H H1) (O : va_at D cl q H) : va_at D cl q H1 := O.kept (h.2 q.1 O.lt)
section YCa
variable {l : Launch} {z : State} {b : yy_T} {rm : Room} {cc : ByteArray} {nL : Nat} {own : String} {ret : Option FieldType} {hh : List (Nat × Nat × Nat × Nat)} {Post : yy_R → Heap → Prop}
variable {H : Heap} {locs : List Loc} {k : Nat × Nat} {pc n : Nat} {lv lv' : List (Nat × Value)} {st st0 rest : List Value}
variable {y : MethodName} {cd : Cond} {rmY : Room} {av : List Value} {Pre : Heap → Prop} {PostM : yy_R → Heap → Heap → Prop} {maxL : Nat}
abbrev yy_PB (b : yy_T) (H : Heap) (locs : List Loc) (k : Nat × Nat) (y : MethodName) (av : List Value) (pc : Nat) (st0 rest : List Value) : Prop :=
  ∀ ls : Array Slot, yy_P (yy_p b) (yy_l b) (yy_e b) (yy_r b) (yy_s b) (yy_m b) (yy_a b) (yy_b b) (yy_t b) (yy_c b) H locs k.1 k.2 y av (F0 (yy_m b) pc ls st0) (F0 (yy_m b) pc ls rest)
theorem yy_call (F : yy_A l z b rm cc nL own ret hh Post) (hS : yy_S z H locs) (hM : yy_M l z y cd rmY av Pre PostM) (hB : yy_B (yy_s b) y cd maxL) (inv : yy_PB b H locs k y av pc st0 rest) {ig : Instr} (hdg : decode cc pc = .ok (ig, 3)) (hn : pc + 3 = n) (hW8 : (rest.map fun v => v.category).sum ≤ 8)
    (hR : rmY.frames + 1 ≤ rm.frames ∧ 8 + (maxL + 11) + rmY.locals ≤ rm.locals) (hf : k.1 + rmY.cells ≤ rm.cells ∧ k.2 + rmY.slots ≤ rm.slots) (hP : Pre H)
    (kr : ∀ (v : Option Value) (H1 : Heap) (locs1 : List Loc), PostM (.inl v) H H1 → yy_S z H1 locs1 → yy_Y b H1 locs1 (k.1 + rmY.cells, k.2 + rmY.slots) n lv (v.toList ++ rest))
    (kt : ∀ (E : String) (q : Addr) (ce : Cell) (H1 : Heap) (locs1 : List Loc), PostM (.inr E) H H1 → yy_S z H1 locs1 → H1[q]? = some ce → ce.vm = .none → (yy_s b).vm.findClass E = some ce.cls → yy_V b H1 locs1 (k.1 + rmY.cells, k.2 + rmY.slots) pc lv rest q) :
    yy_Y b H locs k pc lv st0 := by
  subst hn
  intro ls hl
  have hMl : yy_M (yy_l b) z y cd rmY av Pre PostM := by rw [F.ll]; exact hM
  exact yy_go F.N hS hMl hB (inv ls) (by rw [F.c]; exact hdg) (by rw [F.ml, ← F.n]; exact hl.1) hW8 (by rw [F.r]; exact hR) (by rw [F.r]; exact hf) hP (fun v H1 locs1 h1 h2 => kr v H1 locs1 h1 h2 ls hl) (fun E q ce H1 locs1 h1 h2 h3 h4 h5 => kt E q ce H1 locs1 h1 h2 h3 h4 h5 ls hl)
/-- a call that answers an int, or throws -/
theorem yy_callix (F : yy_A l z b rm cc nL own ret hh Post) (hS : yy_S z H locs) {φ : Int32 → Heap → Heap → Prop} {χ : String → Heap → Heap → Prop} (hM : yy_M l z y cd rmY av Pre (yy_px (yy_pi φ) χ)) (hB : yy_B (yy_s b) y cd maxL) (inv : yy_PB b H locs k y av pc st0 rest) {ig : Instr} (hdg : decode cc pc = .ok (ig, 3)) (hn : pc + 3 = n) (hW8 : (rest.map fun v => v.category).sum ≤ 8)
    (hR : rmY.frames + 1 ≤ rm.frames ∧ 8 + (maxL + 11) + rmY.locals ≤ rm.locals) (hf : k.1 + rmY.cells ≤ rm.cells ∧ k.2 + rmY.slots ≤ rm.slots) (hP : Pre H)
    (kr : ∀ (x : Int32) (H1 : Heap) (locs1 : List Loc), φ x H H1 → yy_S z H1 locs1 → yy_Y b H1 locs1 (k.1 + rmY.cells, k.2 + rmY.slots) n lv (.int x :: rest))
    (kt : ∀ (E : String) (q : Addr) (ce : Cell) (H1 : Heap) (locs1 : List Loc), χ E H H1 → yy_S z H1 locs1 → H1[q]? = some ce → ce.vm = .none → (yy_s b).vm.findClass E = some ce.cls → yy_V b H1 locs1 (k.1 + rmY.cells, k.2 + rmY.slots) pc lv rest q) :
    yy_Y b H locs k pc lv st0 :=
  yy_call F hS hM hB inv hdg hn hW8 hR hf hP (fun v H1 locs1 h1 h2 => by
    rcases h1 with ⟨x, h, hp⟩ | ⟨E, h, -⟩
    · cases h
      exact kr x H1 locs1 hp h2
    · cases h) (fun E q ce H1 locs1 h1 h2 h3 h4 h5 => by
    rcases h1 with ⟨x, h, -⟩ | ⟨E', h, hp⟩
    · cases h
    · cases h
      exact kt E q ce H1 locs1 hp h2 h3 h4 h5)
theorem yy_callrx (F : yy_A l z b rm cc nL own ret hh Post) (hS : yy_S z H locs) {φ : Option Nat → Heap → Heap → Prop} {χ : String → Heap → Heap → Prop} (hM : yy_M l z y cd rmY av Pre (yy_px (yy_pr φ) χ)) (hB : yy_B (yy_s b) y cd maxL) (inv : yy_PB b H locs k y av pc st0 rest) {ig : Instr} (hdg : decode cc pc = .ok (ig, 3)) (hn : pc + 3 = n) (hW8 : (rest.map fun v => v.category).sum ≤ 8)
    (hR : rmY.frames + 1 ≤ rm.frames ∧ 8 + (maxL + 11) + rmY.locals ≤ rm.locals) (hf : k.1 + rmY.cells ≤ rm.cells ∧ k.2 + rmY.slots ≤ rm.slots) (hP : Pre H)
    (kr : ∀ (x : Option Nat) (H1 : Heap) (locs1 : List Loc), φ x H H1 → yy_S z H1 locs1 → yy_Y b H1 locs1 (k.1 + rmY.cells, k.2 + rmY.slots) n lv (va_rf x :: rest))
    (kt : ∀ (E : String) (q : Addr) (ce : Cell) (H1 : Heap) (locs1 : List Loc), χ E H H1 → yy_S z H1 locs1 → H1[q]? = some ce → ce.vm = .none → (yy_s b).vm.findClass E = some ce.cls → yy_V b H1 locs1 (k.1 + rmY.cells, k.2 + rmY.slots) pc lv rest q) :
    yy_Y b H locs k pc lv st0 :=
  yy_call F hS hM hB inv hdg hn hW8 hR hf hP (fun v H1 locs1 h1 h2 => by
    rcases h1 with ⟨x, h, hp⟩ | ⟨E, h, -⟩
    · cases h
      exact kr x H1 locs1 hp h2
    · cases h) (fun E q ce H1 locs1 h1 h2 h3 h4 h5 => by
    rcases h1 with ⟨x, h, -⟩ | ⟨E', h, hp⟩
    · cases h
    · cases h
      exact kt E q ce H1 locs1 hp h2 h3 h4 h5)
theorem yy_callvx (F : yy_A l z b rm cc nL own ret hh Post) (hS : yy_S z H locs) {φ : Heap → Heap → Prop} {χ : String → Heap → Heap → Prop} (hM : yy_M l z y cd rmY av Pre (yy_px (yy_pv φ) χ)) (hB : yy_B (yy_s b) y cd maxL) (inv : yy_PB b H locs k y av pc st0 rest) {ig : Instr} (hdg : decode cc pc = .ok (ig, 3)) (hn : pc + 3 = n) (hW8 : (rest.map fun v => v.category).sum ≤ 8)
    (hR : rmY.frames + 1 ≤ rm.frames ∧ 8 + (maxL + 11) + rmY.locals ≤ rm.locals) (hf : k.1 + rmY.cells ≤ rm.cells ∧ k.2 + rmY.slots ≤ rm.slots) (hP : Pre H)
    (kr : ∀ (H1 : Heap) (locs1 : List Loc), φ H H1 → yy_S z H1 locs1 → yy_Y b H1 locs1 (k.1 + rmY.cells, k.2 + rmY.slots) n lv rest)
    (kt : ∀ (E : String) (q : Addr) (ce : Cell) (H1 : Heap) (locs1 : List Loc), χ E H H1 → yy_S z H1 locs1 → H1[q]? = some ce → ce.vm = .none → (yy_s b).vm.findClass E = some ce.cls → yy_V b H1 locs1 (k.1 + rmY.cells, k.2 + rmY.slots) pc lv rest q) :
    yy_Y b H locs k pc lv st0 :=
  yy_call F hS hM hB inv hdg hn hW8 hR hf hP (fun v H1 locs1 h1 h2 => by
    rcases h1 with ⟨h, hp⟩ | ⟨E, h, -⟩
    · cases h
      exact kr H1 locs1 hp h2
    · cases h) (fun E q ce H1 locs1 h1 h2 h3 h4 h5 => by
    rcases h1 with ⟨h, -⟩ | ⟨E', h, hp⟩
    · cases h
    · cases h
      exact kt E q ce H1 locs1 hp h2 h3 h4 h5)
/-- calls that throw nothing -/
theorem yy_calli (F : yy_A l z b rm cc nL own ret hh Post) (hS : yy_S z H locs) {φ : Int32 → Heap → Heap → Prop} (hM : yy_M l z y cd rmY av Pre (yy_pi φ)) (hB : yy_B (yy_s b) y cd maxL) (inv : yy_PB b H locs k y av pc st0 rest) {ig : Instr} (hdg : decode cc pc = .ok (ig, 3)) (hn : pc + 3 = n) (hW8 : (rest.map fun v => v.category).sum ≤ 8)
    (hR : rmY.frames + 1 ≤ rm.frames ∧ 8 + (maxL + 11) + rmY.locals ≤ rm.locals) (hf : k.1 + rmY.cells ≤ rm.cells ∧ k.2 + rmY.slots ≤ rm.slots) (hP : Pre H)
    (kr : ∀ (x : Int32) (H1 : Heap) (locs1 : List Loc), φ x H H1 → yy_S z H1 locs1 → yy_Y b H1 locs1 (k.1 + rmY.cells, k.2 + rmY.slots) n lv (.int x :: rest)) : yy_Y b H locs k pc lv st0 :=
  yy_call F hS hM hB inv hdg hn hW8 hR hf hP (fun v H1 locs1 h1 h2 => by
    obtain ⟨x, h, hp⟩ := h1
    cases h
    exact kr x H1 locs1 hp h2) (fun E q ce H1 locs1 h1 h2 h3 h4 h5 => by
    obtain ⟨x, h, -⟩ := h1
    cases h)
theorem yy_callr (F : yy_A l z b rm cc nL own ret hh Post) (hS : yy_S z H locs) {φ : Option Nat → Heap → Heap → Prop} (hM : yy_M l z y cd rmY av Pre (yy_pr φ)) (hB : yy_B (yy_s b) y cd maxL) (inv : yy_PB b H locs k y av pc st0 rest) {ig : Instr} (hdg : decode cc pc = .ok (ig, 3)) (hn : pc + 3 = n) (hW8 : (rest.map fun v => v.category).sum ≤ 8)
    (hR : rmY.frames + 1 ≤ rm.frames ∧ 8 + (maxL + 11) + rmY.locals ≤ rm.locals) (hf : k.1 + rmY.cells ≤ rm.cells ∧ k.2 + rmY.slots ≤ rm.slots) (hP : Pre H)
    (kr : ∀ (x : Option Nat) (H1 : Heap) (locs1 : List Loc), φ x H H1 → yy_S z H1 locs1 → yy_Y b H1 locs1 (k.1 + rmY.cells, k.2 + rmY.slots) n lv (va_rf x :: rest)) : yy_Y b H locs k pc lv st0 :=
  yy_call F hS hM hB inv hdg hn hW8 hR hf hP (fun v H1 locs1 h1 h2 => by
    obtain ⟨x, h, hp⟩ := h1
    cases h
    exact kr x H1 locs1 hp h2) (fun E q ce H1 locs1 h1 h2 h3 h4 h5 => by
    obtain ⟨x, h, -⟩ := h1
    cases h)
theorem yy_callv (F : yy_A l z b rm cc nL own ret hh Post) (hS : yy_S z H locs) {φ : Heap → Heap → Prop} (hM : yy_M l z y cd rmY av Pre (yy_pv φ)) (hB : yy_B (yy_s b) y cd maxL) (inv : yy_PB b H locs k y av pc st0 rest) {ig : Instr} (hdg : decode cc pc = .ok (ig, 3)) (hn : pc + 3 = n) (hW8 : (rest.map fun v => v.category).sum ≤ 8)
    (hR : rmY.frames + 1 ≤ rm.frames ∧ 8 + (maxL + 11) + rmY.locals ≤ rm.locals) (hf : k.1 + rmY.cells ≤ rm.cells ∧ k.2 + rmY.slots ≤ rm.slots) (hP : Pre H)
    (kr : ∀ (H1 : Heap) (locs1 : List Loc), φ H H1 → yy_S z H1 locs1 → yy_Y b H1 locs1 (k.1 + rmY.cells, k.2 + rmY.slots) n lv rest) : yy_Y b H locs k pc lv st0 :=
  yy_call F hS hM hB inv hdg hn hW8 hR hf hP (fun v H1 locs1 h1 h2 => by
    obtain ⟨h, hp⟩ := h1
    cases h
    exact kr H1 locs1 hp h2) (fun E q ce H1 locs1 h1 h2 h3 h4 h5 => by
    obtain ⟨h, -⟩ := h1
    cases h)
/-- calls that read alone -/
theorem yy_cri (F : yy_A l z b rm cc nL own ret hh Post) (hS : yy_S z H locs) {v w : Int32} (hM : yy_M l z y cd rmY av Pre (yy_ri v)) (hB : yy_B (yy_s b) y cd maxL) (inv : yy_PB b H locs k y av pc st0 rest) {ig : Instr} (hdg : decode cc pc = .ok (ig, 3)) (hn : pc + 3 = n) (hW8 : (rest.map fun v => v.category).sum ≤ 8)
    (hR : rmY.frames + 1 ≤ rm.frames ∧ 8 + (maxL + 11) + rmY.locals ≤ rm.locals) (hf : k.1 + rmY.cells ≤ rm.cells ∧ k.2 + rmY.slots ≤ rm.slots) (h0 : rmY.cells = 0 ∧ rmY.slots = 0) (hP : Pre H) (hv : v = w)
    (kr : ∀ locs1 : List Loc, yy_S z H locs1 → yy_Y b H locs1 k n lv (.int w :: rest)) : yy_Y b H locs k pc lv st0 :=
  yy_calli F hS hM hB inv hdg hn hW8 hR hf hP (fun x H1 locs1 h1 h2 => by
    obtain ⟨e1, e2⟩ := h1
    subst e1; subst e2; subst hv
    rw [h0.1, h0.2]
    exact kr locs1 h2)
theorem yy_crr (F : yy_A l z b rm cc nL own ret hh Post) (hS : yy_S z H locs) {v w : Option Nat} (hM : yy_M l z y cd rmY av Pre (yy_rr v)) (hB : yy_B (yy_s b) y cd maxL) (inv : yy_PB b H locs k y av pc st0 rest) {ig : Instr} (hdg : decode cc pc = .ok (ig, 3)) (hn : pc + 3 = n) (hW8 : (rest.map fun v => v.category).sum ≤ 8)
    (hR : rmY.frames + 1 ≤ rm.frames ∧ 8 + (maxL + 11) + rmY.locals ≤ rm.locals) (hf : k.1 + rmY.cells ≤ rm.cells ∧ k.2 + rmY.slots ≤ rm.slots) (h0 : rmY.cells = 0 ∧ rmY.slots = 0) (hP : Pre H) (hv : v = w)
    (kr : ∀ locs1 : List Loc, yy_S z H locs1 → yy_Y b H locs1 k n lv (va_rf w :: rest)) : yy_Y b H locs k pc lv st0 :=
  yy_callr F hS hM hB inv hdg hn hW8 hR hf hP (fun x H1 locs1 h1 h2 => by
    obtain ⟨e1, e2⟩ := h1
    subst e1; subst e2; subst hv
    rw [h0.1, h0.2]
    exact kr locs1 h2)
theorem yy_crv (F : yy_A l z b rm cc nL own ret hh Post) (hS : yy_S z H locs) (hM : yy_M l z y cd rmY av Pre yy_rv) (hB : yy_B (yy_s b) y cd maxL) (inv : yy_PB b H locs k y av pc st0 rest) {ig : Instr} (hdg : decode cc pc = .ok (ig, 3)) (hn : pc + 3 = n) (hW8 : (rest.map fun v => v.category).sum ≤ 8)
    (hR : rmY.frames + 1 ≤ rm.frames ∧ 8 + (maxL + 11) + rmY.locals ≤ rm.locals) (hf : k.1 + rmY.cells ≤ rm.cells ∧ k.2 + rmY.slots ≤ rm.slots) (h0 : rmY.cells = 0 ∧ rmY.slots = 0) (hP : Pre H)
    (kr : ∀ locs1 : List Loc, yy_S z H locs1 → yy_Y b H locs1 k n lv rest) : yy_Y b H locs k pc lv st0 :=
  yy_callv F hS hM hB inv hdg hn hW8 hR hf hP (fun H1 locs1 h1 h2 => by
    have e2 : H1 = H := h1
    subst e2
    rw [h0.1, h0.2]
    exact kr locs1 h2)
end YCa
end YC
end
section
/-! PART inv: the kinds of calls, their words by membership in the table -/
section YI
/-- words that are not 'good' by their form, but stay true as tables warm -/
theorem yy_N.nestM {z s : State} {Ts : List Cond} {a0 args : Array Value} (hC : ∀ w ∈ Ts, w.before a0 z = true) (hN : yy_N z s) {o : String} {i : Nat} {y : MethodName} {h : String} (hm : Cond.methodLinkNest o i y h ∈ Ts) : (Cond.methodLinkNest o i y h).before args s = true := va_Nw.use rfl (va_Nw.warmM hN.1 (va_Nw.of rfl (hC _ hm)))
theorem yy_N.cast {z s : State} {Ts : List Cond} {a0 args : Array Value} (hC : ∀ w ∈ Ts, w.before a0 z = true) (hN : yy_N z s) {c t : String} (hm : Cond.castable c t ∈ Ts) : (Cond.castable c t).before args s = true := va_Nw.use rfl (va_Nw.warmC hN.1 (va_Nw.of rfl (hC _ hm)))
theorem yy_N.decl {z s : State} {Ts : List Cond} {a0 : Array Value} (hC : ∀ w ∈ Ts, w.before a0 z = true) (hN : yy_N z s) {x : MethodName} (hm : Cond.declares x ∈ Ts) : va_Decl s x := va_Decl.abs (va_Nw.warmD hN.1 (va_Nw.of rfl (hC _ hm)))
/-- an object's class, as a receiver needs it -/
theorem yy_recv {z s : State} {D : va_G} {cl : List vw_C} {tys : List (ClassId × FieldType)} {a ci : Nat} {fs : List Value} {H : Heap} (hN : yy_N z s) (hK : va_K D cl tys z) {q : vw_C} (hc : cl[ci]? = some q) (O : va_at D cl (a, .inr (ci, fs)) H) : ∃ cell : Cell, H[a]? = some cell ∧ cell.vm.isStatics = false ∧ s.vm.findClass q.1 = some cell.cls :=
  va_recv (hK.moved hN.1.alike) (yy_P1 O) hc (q0 := 0) rfl
section YIa
variable {l : Launch} {z : State} {b : yy_T} {rm : Room} {cc : ByteArray} {nL : Nat} {own : String} {ret : Option FieldType} {hh : List (Nat × Nat × Nat × Nat)} {Post : yy_R → Heap → Prop}
variable {H : Heap} {locs : List Loc} {k : Nat × Nat} {pc : Nat} {rest : List Value} {Ts : List Cond} {a0 : Array Value}
variable {x y : MethodName} {av : List Value} {bytes : ByteArray} {retY : Option FieldType} {maxL idx nA a : Nat} {C owner : String}
theorem yy_Bc (F : yy_A l z b rm cc nL own ret hh Post) (hC : ∀ w ∈ Ts, w.before a0 z = true) (hc : Cond.code y bytes maxL retY ∈ Ts) (hi : Cond.initialized y.cls ∈ Ts) : yy_B (yy_s b) y (.code y bytes maxL retY) maxL :=
  yy_B.code (a := a0) (F.N.w hC hc rfl) (F.N.w hC hi rfl) rfl
theorem yy_invS (F : yy_A l z b rm cc nL own ret hh Post) (hC : ∀ w ∈ Ts, w.before a0 z = true) (hl : Cond.methodLink own idx y ∈ Ts) (hs : Cond.static y ∈ Ts) (hi : Cond.initialized y.cls ∈ Ts) (hc : Cond.code y bytes maxL retY ∈ Ts)
    (hy : y.cls ≠ "java/lang/invoke/MethodHandle" ∧ y.cls ≠ "java/lang/invoke/VarHandle" ∧ (parseMethodDescriptor y.desc).map (fun d => d.parameters.length) = some nA) (hn : av.length = nA) (d : decode cc pc = .ok (.invokestatic idx, 3)) :
    yy_PB b H locs k y av pc (av.reverse ++ rest) rest := by
  intro ls
  have hcode : (Cond.code y bytes maxL retY).before (yy_a b) (yy_s b) = true := F.N.w hC hc rfl
  refine yy_PS F.x F.ow (F.N.w hC hl rfl) (F.N.w hC hs rfl) (F.N.w hC hi rfl) (fun mk hnm => ?_) (Cond.code_named hcode) ⟨hy.1, hy.2.1⟩ hy.2.2 hn rfl (by rw [F.c]; exact d)
  obtain ⟨methM, cM, h1, -, -, -, -, -, -, h9⟩ := Cond.code_spec hnm hcode
  exact ⟨methM, h1, h9⟩
theorem yy_invV (F : yy_A l z b rm cc nL own ret hh Post) (hC : ∀ w ∈ Ts, w.before a0 z = true) (hl : Cond.methodLink own idx y ∈ Ts) (hin : Cond.instanceMethod y ∈ Ts) (hse : Cond.selects C y y ∈ Ts) (hc : Cond.code y bytes maxL retY ∈ Ts)
    (hy : y.cls ≠ "java/lang/invoke/MethodHandle" ∧ y.cls ≠ "java/lang/invoke/VarHandle" ∧ (parseMethodDescriptor y.desc).map (fun d => d.parameters.length) = some nA) (hr : ∃ cell : Cell, H[a]? = some cell ∧ cell.vm.isStatics = false ∧ (yy_s b).vm.findClass C = some cell.cls) (hn : av.length = nA) (d : decode cc pc = .ok (.invokevirtual idx, 3)) :
    yy_PB b H locs k y (.ref a :: av) pc (av.reverse ++ .ref a :: rest) rest := by
  intro ls T hT X
  have hcode : (Cond.code y bytes maxL retY).before (yy_a b) (yy_s b) = true := F.N.w hC hc rfl
  obtain ⟨cellB, hcB, hobj, hcls⟩ := hr
  obtain ⟨mk, methM, hnamed, hmethM, hstM, habM⟩ := Cond.instanceMethod_spec (F.N.w (args := yy_a b) hC hin rfl)
  obtain ⟨methM', cM, hmethM', -, -, -, -, -, -, hsigM⟩ := Cond.code_spec hnamed hcode
  cases hmethM.symm.trans hmethM'
  obtain ⟨c2, r2, m2, q1, q2, q3, q4, kP, hkP, hkPi⟩ := Cond.selects_spec (F.N.w (args := yy_a b) hC hse rfl)
  cases hcls.symm.trans q1
  cases (State.methodFound?_of_named hnamed ⟨hy.1, hy.2.1⟩).symm.trans q2
  cases hnamed.symm.trans q3
  have hselP : selectMethod (yy_e b).platform (yy_s b).vm cellB.cls mk = .method mk := by rw [Launch.admits_selectMethod X.admits]; exact q4
  obtain ⟨vm₁, X₁, hstep₁⟩ := X.invokevirtual F.x F.ow (F.N.w hC hl rfl) hnamed hmethM hstM hkP hkPi ⟨hy.1, hy.2.1⟩ (a := a) (cell := cellB) (by rw [hT]; exact hcB)
    (fun q h => by rw [h] at hobj; cases hobj) hselP hmethM habM hkP hkPi (g := F0 (yy_m b) pc ls (av.reverse ++ .ref a :: rest)) rfl (argsL := av) (rest := rest) (by have h2 := hy.2.2; rw [hsigM] at h2; rw [hn]; exact (Option.some.inj h2).symm) rfl (by rw [F.c]; exact d)
  exact ⟨vm₁, mk, X₁, X₁.named hnamed, fun target h => hstep₁ _ fun acts => by rw [doInvoke_state]; exact h⟩
/-- the reference names x, through a class that may only inherit it; the receiver's class selects y -/
theorem yy_invU (F : yy_A l z b rm cc nL own ret hh Post) (hC : ∀ w ∈ Ts, w.before a0 z = true) (hl : Cond.methodLink own idx x ∈ Ts) (hsm : Cond.sameMethod x.cls owner x.name x.desc ∈ Ts) (hd0 : va_Decl (yy_s b) ⟨owner, x.name, x.desc⟩) (hse : Cond.selects C x y ∈ Ts) (hin : Cond.instanceMethod y ∈ Ts)
    (hy : owner ≠ "java/lang/invoke/MethodHandle" ∧ owner ≠ "java/lang/invoke/VarHandle" ∧ (parseMethodDescriptor x.desc).map (fun d => d.parameters.length) = some nA) (hr : ∃ cell : Cell, H[a]? = some cell ∧ cell.vm.isStatics = false ∧ (yy_s b).vm.findClass C = some cell.cls) (hn : av.length = nA) (d : decode cc pc = .ok (.invokevirtual idx, 3)) :
    yy_PB b H locs k y (.ref a :: av) pc (av.reverse ++ .ref a :: rest) rest := by
  intro ls T hT X
  obtain ⟨cellB, hcB, hobj, hcls⟩ := hr
  obtain ⟨r0, r, hn0, hrm, hstR, hsigR⟩ := hd0
  obtain ⟨cn, ck, r1, hcn, hck, hni, hf, hn1⟩ := Cond.sameMethod_found (F.N.w (args := yy_a b) hC hsm rfl)
  cases hn0.symm.trans hn1
  obtain ⟨mk, methM, hnamed, hmethM, -, habM⟩ := Cond.instanceMethod_spec (F.N.w (args := yy_a b) hC hin rfl)
  obtain ⟨c2, r2, m2, q1, q2, q3, q4, kP, hkP, hkPi⟩ := Cond.selects_spec (F.N.w (args := yy_a b) hC hse rfl)
  cases hcls.symm.trans q1
  cases hf.symm.trans q2
  cases hnamed.symm.trans q3
  have hselP : selectMethod (yy_e b).platform (yy_s b).vm cellB.cls r0 = .method mk := by rw [Launch.admits_selectMethod X.admits]; exact q4
  obtain ⟨vm₁, X₁, hstep₁⟩ := X.invokevirtualUp F.x F.ow (F.N.w hC hl rfl) (F.N.w hC hsm rfl) ⟨hy.1, hy.2.1⟩ hn0 hrm hstR (a := a) (cell := cellB) (by rw [hT]; exact hcB)
    (fun q h => by rw [h] at hobj; cases hobj) hselP hmethM habM hkP hkPi (g := F0 (yy_m b) pc ls (av.reverse ++ .ref a :: rest)) rfl (argsL := av) (rest := rest) (by have h2 := hy.2.2; rw [hsigR] at h2; rw [hn]; exact (Option.some.inj h2).symm) rfl (by rw [F.c]; exact d)
  exact ⟨vm₁, mk, X₁, X₁.named hnamed, fun target h => hstep₁ _ fun acts => by rw [doInvoke_state]; exact h⟩
/-- a constructor -/
theorem yy_invI (F : yy_A l z b rm cc nL own ret hh Post) (hC : ∀ w ∈ Ts, w.before a0 z = true) (hy1 : y.name = "<init>") (hl : Cond.methodLink own idx y ∈ Ts ∨ ∃ host : String, Cond.methodLinkNest own idx y host ∈ Ts) (hin : Cond.instanceMethod y ∈ Ts) (hc : Cond.code y bytes maxL none ∈ Ts)
    (hy : y.cls ≠ "java/lang/invoke/MethodHandle" ∧ y.cls ≠ "java/lang/invoke/VarHandle" ∧ (parseMethodDescriptor y.desc).map (fun d => d.parameters.length) = some nA) (hn : av.length = nA) (d : decode cc pc = .ok (.invokespecial idx, 3)) :
    yy_PB b H locs k y (.ref a :: av) pc (av.reverse ++ .ref a :: rest) rest := by
  intro ls T hT X
  have hpl : (yy_e b).platform.magicAccessors = ({} : Platform).magicAccessors := by rw [X.admits.platform]
  have hlen : ∀ sig, parseMethodDescriptor y.desc = some sig → av.length = sig.parameters.length := fun sig h => by have h2 := hy.2.2; rw [h] at h2; rw [hn]; exact (Option.some.inj h2).symm
  have d9 : decode (yy_c b).code pc = .ok (.invokespecial idx, 3) := by rw [F.c]; exact d
  rcases hl with hl | ⟨host, hl⟩
  · obtain ⟨mk, methM, cM, kP, vm₁, hnamed, hmethM, hcodeM, -, hlocalsM, -, hkP, -, hW₁, hstep₁⟩ := Steps.initColdArgs (e := yy_e b) X.here F.x X.warmed hpl F.ow hy1 ⟨hy.1, hy.2.1⟩ (F.N.w (args := yy_a b) hC hl rfl) (F.N.w (args := yy_a b) hC hin rfl) (F.N.w (args := yy_a b) hC hc rfl) (f := F0 (yy_m b) pc ls (av.reverse ++ .ref a :: rest)) rfl hlen rfl d9
    have X₁ := X.noted hW₁
    exact ⟨vm₁, mk, X₁, X₁.named hnamed, fun target h => hstep₁ _ fun acts => by rw [doInvoke_state]; exact h⟩
  · obtain ⟨mk, methM, cM, kP, vm₁, hnamed, hmethM, hcodeM, -, hlocalsM, -, hkP, -, hW₁, hstep₁⟩ := Steps.initColdArgsNest (e := yy_e b) X.here F.x X.warmed hpl F.ow hy1 ⟨hy.1, hy.2.1⟩ (F.N.nestM (args := yy_a b) hC hl) (F.N.w (args := yy_a b) hC hin rfl) (F.N.w (args := yy_a b) hC hc rfl) (f := F0 (yy_m b) pc ls (av.reverse ++ .ref a :: rest)) rfl hlen rfl d9
    have X₁ := X.noted hW₁
    exact ⟨vm₁, mk, X₁, X₁.named hnamed, fun target h => hstep₁ _ fun acts => by rw [doInvoke_state]; exact h⟩
end YIa
end YI
end
section
/-! PART more: constructors of Object, new objects and arrays, casts, throws, handlers -/
section YM
section YMa
variable {l : Launch} {z : State} {b : yy_T} {rm : Room} {cc : ByteArray} {nL : Nat} {own : String} {ret : Option FieldType} {hh : List (Nat × Nat × Nat × Nat)} {Post : yy_R → Heap → Prop}
variable {H : Heap} {locs : List Loc} {k : Nat × Nat} {pc n : Nat} {lv lv' : List (Nat × Value)} {st : List Value}
variable {Ts : List Cond} {a0 : Array Value} {D : va_G} {cl : List vw_C} {tys : List (ClassId × FieldType)} {a ci idx : Nat} {fs : List Value} {C : String}
theorem yy_obj0 (F : yy_A l z b rm cc nL own ret hh Post) (hC : ∀ w ∈ Ts, w.before a0 z = true) (hl : Cond.methodLink own idx objectInit ∈ Ts) (hin : Cond.instanceMethod objectInit ∈ Ts) (hc : Cond.code objectInit ⟨#[0xb1]⟩ 1 none ∈ Ts) (hR : 1 ≤ rm.frames ∧ (st.map fun v => v.category).sum + 12 ≤ rm.locals) (d : decode cc pc = .ok (.invokespecial idx, 3)) (hn : pc + 3 = n) (kk : yy_Y b H locs k n lv st) : yy_Y b H locs k pc lv (.ref a :: st) := by
  subst hn
  intro ls hl9
  refine W.objInit F.x F.c F.ow (F.N.w hC hl rfl) (F.N.w hC hin rfl) (F.N.w hC hc rfl) rfl (by rw [F.ml, ← F.n]; exact hl9.1) rfl d (by rw [F.r]; exact hR.1) (by rw [F.r]; show 2 * 0 + _ + 12 ≤ _; have := hR.2; omega) ?_
  exact kk ls hl9
/-- the words of 'new': by this class, at this pool index, of class ci -/
theorem yy_new (F : yy_A l z b rm cc nL own ret hh Post) (hC : ∀ w ∈ Ts, w.before a0 z = true) (hK : va_K D cl tys z) {T : u_T} {N : Nat} {ty : Nat → FieldType} (hc : cl[ci]? = some (C, T, N)) (hw : ∀ w ∈ u_ws C T N, w ∈ Ts ∧ goodWord w = true) (hty : ∀ k, k < N → parseFieldDescriptor (T k).2.2.1 = some (ty k))
    (h1 : Cond.classLink own idx C ∈ Ts) (h2 : Cond.instantiable C N ∈ Ts) (h3 : Cond.initialized C ∈ Ts) (hS : yy_S z H locs) (hfs : ∀ j, j < N → defaultValue (ty j) = vp_V fs j) (hR : k.1 + 1 ≤ rm.cells ∧ k.2 + N ≤ rm.slots) (d : decode cc pc = .ok (.new idx, 3)) (hn : pc + 3 = n)
    (kk : ∀ H1 : Heap, va_at D cl (H.size, .inr (ci, fs)) H1 → H1.size = H.size + 1 → (∀ q : Nat, q < H.size → H1[q]? = H[q]?) → yy_S z H1 locs → yy_Y b H1 locs (k.1 + 1, k.2 + N) n lv (.ref H.size :: st)) : yy_Y b H locs k pc lv st := by
  subst hn
  intro ls hl
  have hts : ∀ w ∈ u_ws C T N, w.before (yy_a b) (yy_s b) = true := fun w h => F.N.w hC (hw w h).1 (hw w h).2
  have hKs : va_K D cl tys (yy_s b) := hK.moved F.N.1.alike
  have hKn := hKs.1 ci _ hc
  refine W.newcK F.x F.c F.ow (F.N.w hC h1 rfl) (F.N.w hC h2 rfl) (F.N.w hC h3 rfl) rfl d (by rw [F.r]; exact hR.1) (by rw [F.r]; exact hR.2) hKn.2.1 rfl fun H1 kC hkC e1 z1 o1 => ?_
  exact kk H1 ⟨_, hc, (u_born ty hts (fun _ h => h) hKn hkC e1 hty).to hfs⟩ z1 o1 (hS.new z1 o1) ls hl
variable {cA : ClassId} {N t0 : Nat} {i : Int32}
theorem yy_newi (F : yy_A l z b rm cc nL own ret hh Post) (hC : ∀ w ∈ Ts, w.before a0 z = true) (hK : va_K D cl tys z) (t0 : Nat) (ht : tys[t0]? = some (cA, .int)) (h1 : Cond.arrayClass .int ∈ Ts) (hS : yy_S z H locs) (hi : ¬ i < 0) (hN : i.toNatClampNeg = N) (hbytes : N * 4 ≤ 536870912) (hR : k.1 + 1 ≤ rm.cells ∧ k.2 + N ≤ rm.slots) (d : decode cc pc = .ok (.newarray .int, 2)) (hn : pc + 2 = n)
    (kk : ∀ H1 : Heap, va_at D cl (H.size, .inl (cA, N, .inl (fun _ => 0))) H1 → H1.size = H.size + 1 → (∀ q : Nat, q < H.size → H1[q]? = H[q]?) → yy_S z H1 locs → yy_Y b H1 locs (k.1 + 1, k.2 + N) n lv (.ref H.size :: st)) : yy_Y b H locs k pc lv (.int i :: st) := by
  subst hn
  intro ls hl
  have hKs : va_K D cl tys (yy_s b) := hK.moved F.N.1.alike
  refine va_newaK F.x F.c (atype := .int) (F.N.w hC h1 rfl) rfl d rfl hi hN hbytes (by rw [F.r]; exact hR.1) (by rw [F.r]; exact hR.2) rfl fun H1 cA9 e1 z1 o1 hAr hNm => ?_
  have hA9 : cA9 = cA := Option.some.inj (hNm.symm.trans (hKs.2 t0 _ ht).2)
  subst hA9
  refine kk H1 ?_ z1 o1 (hS.new z1 o1) ls hl
  show H1[H.size]? = some (vp_cell _ _)
  rw [vp_cell_i]
  exact e1
theorem yy_newl (F : yy_A l z b rm cc nL own ret hh Post) (hC : ∀ w ∈ Ts, w.before a0 z = true) (hK : va_K D cl tys z) (t0 : Nat) (ht : tys[t0]? = some (cA, .long)) (h1 : Cond.arrayClass .long ∈ Ts) (hS : yy_S z H locs) (hi : ¬ i < 0) (hN : i.toNatClampNeg = N) (hbytes : N * 8 ≤ 536870912) (hR : k.1 + 1 ≤ rm.cells ∧ k.2 + N ≤ rm.slots) (d : decode cc pc = .ok (.newarray .long, 2)) (hn : pc + 2 = n)
    (kk : ∀ H1 : Heap, va_at D cl (H.size, .inl (cA, N, .inr (.inl (fun _ => 0)))) H1 → H1.size = H.size + 1 → (∀ q : Nat, q < H.size → H1[q]? = H[q]?) → yy_S z H1 locs → yy_Y b H1 locs (k.1 + 1, k.2 + N) n lv (.ref H.size :: st)) : yy_Y b H locs k pc lv (.int i :: st) := by
  subst hn
  intro ls hl
  have hKs : va_K D cl tys (yy_s b) := hK.moved F.N.1.alike
  refine va_newaK F.x F.c (atype := .long) (F.N.w hC h1 rfl) rfl d rfl hi hN hbytes (by rw [F.r]; exact hR.1) (by rw [F.r]; exact hR.2) rfl fun H1 cA9 e1 z1 o1 hAr hNm => ?_
  have hA9 : cA9 = cA := Option.some.inj (hNm.symm.trans (hKs.2 t0 _ ht).2)
  subst hA9
  refine kk H1 ?_ z1 o1 (hS.new z1 o1) ls hl
  show H1[H.size]? = some (vp_cell _ _)
  rw [vp_cell_l]
  exact e1
/-- instanceof, checkcast, of an object whose class is known -/
theorem yy_instY (F : yy_A l z b rm cc nL own ret hh Post) (hC : ∀ w ∈ Ts, w.before a0 z = true) (hK : va_K D cl tys z) {nm : String} {q : vw_C} (h1 : Cond.classLink own idx nm ∈ Ts) (h2 : Cond.castable q.1 nm ∈ Ts) (hc : cl[ci]? = some q) (O : va_at D cl (a, .inr (ci, fs)) H) (d : decode cc pc = .ok (.instanceof idx, 3)) (hn : pc + 3 = n) (kk : yy_Y b H locs k n lv (.int 1 :: st)) : yy_Y b H locs k pc lv (.ref a :: st) := by
  subst hn
  intro ls hl
  exact va_instY F.x F.c F.ow (F.N.w hC h1 rfl) (va_Nw.warmC F.N.1 (va_Nw.of rfl (hC _ h2))) (yy_recv F.N hK hc O) d (kk ls hl)
theorem yy_castY (F : yy_A l z b rm cc nL own ret hh Post) (hC : ∀ w ∈ Ts, w.before a0 z = true) (hK : va_K D cl tys z) {nm : String} {q : vw_C} (h1 : Cond.classLink own idx nm ∈ Ts) (h2 : Cond.castable q.1 nm ∈ Ts) (hc : cl[ci]? = some q) (O : va_at D cl (a, .inr (ci, fs)) H) (d : decode cc pc = .ok (.checkcast idx, 3)) (hn : pc + 3 = n) (kk : yy_Y b H locs k n lv (.ref a :: st)) : yy_Y b H locs k pc lv (.ref a :: st) := by
  subst hn
  intro ls hl
  exact va_castY F.x F.c F.ow (F.N.w hC h1 rfl) (va_Nw.warmC F.N.1 (va_Nw.of rfl (hC _ h2))) (yy_recv F.N hK hc O) d (kk ls hl)
theorem yy_instS (F : yy_A l z b rm cc nL own ret hh Post) (hC : ∀ w ∈ Ts, w.before a0 z = true) (hK : va_K D cl tys z) {q : vw_C} (h1 : Cond.classLink own idx q.1 ∈ Ts) (hc : cl[ci]? = some q) (O : va_at D cl (a, .inr (ci, fs)) H) (d : decode cc pc = .ok (.instanceof idx, 3)) (hn : pc + 3 = n) (kk : yy_Y b H locs k n lv (.int 1 :: st)) : yy_Y b H locs k pc lv (.ref a :: st) := by
  subst hn
  intro ls hl
  exact va_instS F.x F.c F.ow (F.N.w hC h1 rfl) ((hK.moved F.N.1.alike).1 ci q hc).2 (yy_recv F.N hK hc O) d (kk ls hl)
theorem yy_castS (F : yy_A l z b rm cc nL own ret hh Post) (hC : ∀ w ∈ Ts, w.before a0 z = true) (hK : va_K D cl tys z) {q : vw_C} (h1 : Cond.classLink own idx q.1 ∈ Ts) (hc : cl[ci]? = some q) (O : va_at D cl (a, .inr (ci, fs)) H) (d : decode cc pc = .ok (.checkcast idx, 3)) (hn : pc + 3 = n) (kk : yy_Y b H locs k n lv (.ref a :: st)) : yy_Y b H locs k pc lv (.ref a :: st) := by
  subst hn
  intro ls hl
  exact va_castS F.x F.c F.ow (F.N.w hC h1 rfl) ((hK.moved F.N.1.alike).1 ci q hc).2 (yy_recv F.N hK hc O) d (kk ls hl)
theorem yy_instNo (F : yy_A l z b rm cc nL own ret hh Post) (hC : ∀ w ∈ Ts, w.before a0 z = true) (hK : va_K D cl tys z) {nm : String} {q : vw_C} (h1 : Cond.classLink own idx nm ∈ Ts) (h2 : va_Nc q.1 nm z) (hc : cl[ci]? = some q) (O : va_at D cl (a, .inr (ci, fs)) H) (d : decode cc pc = .ok (.instanceof idx, 3)) (hn : pc + 3 = n) (kk : yy_Y b H locs k n lv (.int 0 :: st)) : yy_Y b H locs k pc lv (.ref a :: st) := by
  subst hn
  intro ls hl
  exact va_instNo F.x F.c F.ow (F.N.w hC h1 rfl) (h2.moved F.N.1.alike) (yy_recv F.N hK hc O) d (kk ls hl)
end YMa
end YM
end
section
/-! PART throw: 'throw new E("text")' in a method that has written nothing, and handlers -/
section YT
section YTa
variable {l : Launch} {z : State} {b : yy_T} {rm : Room} {cc : ByteArray} {nL : Nat} {own : String} {ret : Option FieldType} {hh : List (Nat × Nat × Nat × Nat)} {Post : yy_R → Heap → Prop}
variable {H : Heap} {locs : List Loc} {k : Nat × Nat} {pc n : Nat} {lv lv' : List (Nat × Value)} {st : List Value}
variable {Ts : List Cond} {a0 : Array Value}
/-- nothing that was there has changed: nothing counts as written -/
theorem yy_clean (hH : (yy_s b).heap = H) (kk : yy_Y b H [] k pc lv st) : yy_Y b H locs k pc lv st := by
  intro ls hl T hT X
  refine kk ls hl T hT { X with same := ?_ }
  obtain ⟨e1, h2, h3, h4, h5, -⟩ := X.same
  refine ⟨e1, h2, h3, h4, h5, fun a c9 h9 => ⟨c9, ?_, rfl, rfl, fun _ _ => rfl⟩⟩
  show T.heap[a]? = some c9
  rw [hT, ← hH]
  exact h9
theorem yy_throwS (F : yy_A l z b rm cc nL own ret [] Post) (hC : ∀ w ∈ Ts, w.before a0 z = true) (hlt : l.stackTraces = false) {cls text : String} {names : List String} {ik is ic sa : Nat} (hcls : Bundle.fit cls = true) (hnames : ∀ n ∈ names, Bundle.fit n = true)
    (h1 : Cond.classLink own ik cls ∈ Ts) (h2 : Cond.initialized cls ∈ Ts) (hstr : vk_R own is text sa z) (hat : ∀ w ∈ Bundle.ownAtoms own ic cls names, w.before (yy_a b) (yy_s b) = true) (hH : (yy_s b).heap = H)
    (hR : names.length + 3 < rm.frames ∧ (st.map fun v => v.category).sum + (13 * (names.length + 1) + 43) ≤ rm.locals) (hk : k.1 + 1 ≤ rm.cells ∧ k.2 + 6 ≤ rm.slots)
    (d0 : decode cc pc = .ok (.new ik, 3)) (d3 : decode cc (pc + 3) = .ok (.dup, 1)) (d4 : decode cc (pc + 4) = .ok (.ldc is, 2)) (d6 : decode cc (pc + 6) = .ok (.invokespecial ic, 3)) (d9 : decode cc (pc + 9) = .ok (.athrow, 1))
    (hp : ∀ H1 : Heap, yy_ext H H1 → Post (.inr cls) H1) : yy_Y b H [] k pc lv st := by
  intro ls hl T hT X
  have htr : (yy_e b).platform.stackTraces = false := (show (yy_e b).platform.stackTraces = (yy_l b).stackTraces by rw [X.admits.platform]).trans (by rw [F.ll]; exact hlt)
  have hins : (Cond.instantiable cls 6).before (yy_a b) (yy_s b) = true := hat _ (by simp [Bundle.ownAtoms])
  obtain ⟨vm₁, cX, kX, hfX, hkX, -, -, X₁, st1⟩ := X.newCold F.x (own := own) (C := cls) (index := ik) (n := 6) F.ow (F.N.w hC h1 rfl) hins (F.N.w hC h2 rfl)
    (g := F0 (yy_m b) pc ls st) rfl (by rw [F.c]; exact d0) (by rw [F.r]; exact hk.1) (by rw [F.r]; exact hk.2)
  generalize hT1 : (T.setVm vm₁).pushCell { cls := cX, slots := kX.instanceTypes.map defaultValue, vm := .none } = T1 at X₁ st1
  have hcat : (Value.ref T.heap.size).category = 1 := rfl
  have hcellA : T1.heap[T.heap.size]? = some (freshCell cX kX) := by rw [← hT1]; exact State.heap_pushCell_size _ _
  have d3' : decode (yy_c b).code (pc + 3) = .ok (.dup, 1) := by rw [F.c]; exact d3
  have d4' : decode (yy_c b).code (pc + 4) = .ok (.ldc is, 2) := by rw [F.c]; exact d4
  have hstr' : vk_R own is text sa (yy_s b) := vk_R.warm F.N.1 hstr
  have hout : ∀ x ∈ (yy_c b).exceptionTable.toList, covers x (pc + 9) = false := by
    rw [F.tb]
    intro x hx
    cases hx
  have hsz : (yy_s b).heap.size ≤ T.heap.size := X.same.2.1
  obtain ⟨U, hsteps, hrun, hend, hW, hsame, ce, hce, hO⟩ := X₁.ctorThrowS F.x htr (own := own) (cls := cls) (names := names) (ic := ic) F.ow hcls hnames hat (fun x hx => nomatch hx) hfX hkX hcellA hsz (msg := .ref sa) rfl
    (g := { method := yy_m b, pc := pc + 6, locals := ls, stack := .ref sa :: .ref T.heap.size :: .ref T.heap.size :: st, locked := none }) rfl (by rw [F.ml, ← F.n]; exact hl.1) rfl rfl (rest := st) rfl
    (by rw [F.c]; exact d6) (by rw [F.c]; exact d9) hout (by rw [F.r]; exact hR.1) (by rw [F.r]; simp only [List.map_cons, List.sum_cons, hcat]; show 2 * 0 + _ + _ ≤ _; have := hR.2; omega) F.lk
  obtain ⟨f1, f2⟩ := yy_kept hsame
  refine ⟨U, ?_, ?_⟩
  · refine st1 _ ?_
    show Steps (yy_p b).tables (yy_e b) (yy_b b) (T1.setTop { method := yy_m b, pc := pc + 3, locals := ls, stack := .ref T.heap.size :: st, locked := none }) _
    have hx := F.x
    jvm_step X₁.here [X₁.here.top, hx, d3', Value.category]
    exact X₁.ldcString F.x (own := own) (text := text) (index := is) (a := sa) F.ow hstr'.1 hstr'.2
      (g := { method := yy_m b, pc := pc + 4, locals := ls, stack := .ref T.heap.size :: .ref T.heap.size :: st, locked := none }) rfl d4' _ hsteps
  · rw [F.q]
    refine ⟨.threw T.heap.size, hrun, hend, .inr cls, [], ⟨_, ce, rfl, hce, hO.vm, hO.cls⟩, ?_, hW, hsame.mono hk.1 hk.2, fun _ h => nomatch h⟩
    refine hp U.heap ?_
    rw [← hH]
    exact ⟨f1, fun q hq => f2 q hq (fun x hx => nomatch hx)⟩
end YTa
end YT
end
section
def R_K : String := "ContainerKit"
def R_S : String := "ContainerKit$Store"
def R_C : String := "ContainerKit$Container"
def R_P : String := "ContainerKit$Part"
def R_R : String := "ContainerKit$Range"
def R_G : String := "ContainerKit$Whole"
def R_W : String := "ContainerKit$Walk"
def R_M : String := "ContainerKitModel"
def R_L : String := "ContainerKitLaw"
def R_X : String := "java/lang/Math"
def T_S : u_T := fun k => match k with
  | 0 => ("ContainerKit$Store", "kind", "I", true)
  | 1 => ("ContainerKit$Store", "numbers", "[I", true)
  | 2 => ("ContainerKit$Store", "values", "[I", true)
  | 3 => ("ContainerKit$Store", "count", "I", false)
  | 4 => ("ContainerKit$Store", "room", "I", false)
  | _ => ("ContainerKit$Store", "changes", "I", false)
def ty_S : Nat → FieldType := fun k => match k with
  | 0 => .int
  | 1 => .array .int
  | 2 => .array .int
  | 3 => .int
  | 4 => .int
  | _ => .int
theorem nm_S : ∀ a, a < 6 → ∀ b, b < 6 → a ≠ b → (T_S a).2.1 ≠ (T_S b).2.1 := by decide +kernel
theorem tk_S : ∀ k, k < 6 → parseFieldDescriptor (T_S k).2.2.1 = some (ty_S k) := by decide +kernel
theorem us_S : ∀ w ∈ u_ws R_S T_S 6, w ∈ lw_tbl ∧ goodWord w = true := by
  show ∀ w ∈ [u_lay R_S T_S 0, u_lay R_S T_S 1, u_lay R_S T_S 2, u_lay R_S T_S 3, u_lay R_S T_S 4, u_lay R_S T_S 5], w ∈ lw_tbl ∧ goodWord w = true
  intro w hw
  simp only [List.mem_cons, List.not_mem_nil, or_false] at hw
  rcases hw with rfl | rfl | rfl | rfl | rfl | rfl
  · exact ⟨q_185, rfl⟩
  · exact ⟨q_187, rfl⟩
  · exact ⟨q_189, rfl⟩
  · exact ⟨q_191, rfl⟩
  · exact ⟨q_193, rfl⟩
  · exact ⟨q_195, rfl⟩
def T_G : u_T := fun k => match k with
  | 0 => ("ContainerKit$Container", "kind", "I", true)
  | _ => ("ContainerKit$Container", "store", "LContainerKit$Store;", true)
def ty_G : Nat → FieldType := fun k => match k with
  | 0 => .int
  | _ => .object "ContainerKit$Store"
theorem nm_G : ∀ a, a < 2 → ∀ b, b < 2 → a ≠ b → (T_G a).2.1 ≠ (T_G b).2.1 := by decide +kernel
theorem tk_G : ∀ k, k < 2 → parseFieldDescriptor (T_G k).2.2.1 = some (ty_G k) := by decide +kernel
theorem us_G : ∀ w ∈ u_ws R_G T_G 2, w ∈ lw_tbl ∧ goodWord w = true := by
  show ∀ w ∈ [u_lay R_G T_G 0, u_lay R_G T_G 1], w ∈ lw_tbl ∧ goodWord w = true
  intro w hw
  simp only [List.mem_cons, List.not_mem_nil, or_false] at hw
  rcases hw with rfl | rfl
  · exact ⟨q_215, rfl⟩
  · exact ⟨q_217, rfl⟩
def T_P : u_T := fun k => match k with
  | 0 => ("ContainerKit$Container", "kind", "I", true)
  | 1 => ("ContainerKit$Container", "store", "LContainerKit$Store;", true)
  | 2 => ("ContainerKit$Part", "above", "LContainerKit$Part;", true)
  | 3 => ("ContainerKit$Part", "start", "I", true)
  | 4 => ("ContainerKit$Part", "count", "I", false)
  | _ => ("ContainerKit$Part", "seenChanges", "I", false)
def ty_P : Nat → FieldType := fun k => match k with
  | 0 => .int
  | 1 => .object "ContainerKit$Store"
  | 2 => .object "ContainerKit$Part"
  | 3 => .int
  | 4 => .int
  | _ => .int
theorem nm_P : ∀ a, a < 6 → ∀ b, b < 6 → a ≠ b → (T_P a).2.1 ≠ (T_P b).2.1 := by decide +kernel
theorem tk_P : ∀ k, k < 6 → parseFieldDescriptor (T_P k).2.2.1 = some (ty_P k) := by decide +kernel
theorem us_P : ∀ w ∈ u_ws R_P T_P 6, w ∈ lw_tbl ∧ goodWord w = true := by
  show ∀ w ∈ [u_lay R_P T_P 0, u_lay R_P T_P 1, u_lay R_P T_P 2, u_lay R_P T_P 3, u_lay R_P T_P 4, u_lay R_P T_P 5], w ∈ lw_tbl ∧ goodWord w = true
  intro w hw
  simp only [List.mem_cons, List.not_mem_nil, or_false] at hw
  rcases hw with rfl | rfl | rfl | rfl | rfl | rfl
  · exact ⟨q_390, rfl⟩
  · exact ⟨q_391, rfl⟩
  · exact ⟨q_382, rfl⟩
  · exact ⟨q_384, rfl⟩
  · exact ⟨q_386, rfl⟩
  · exact ⟨q_388, rfl⟩
def T_R : u_T := fun k => match k with
  | 0 => ("ContainerKit$Container", "kind", "I", true)
  | 1 => ("ContainerKit$Container", "store", "LContainerKit$Store;", true)
  | 2 => ("ContainerKit$Range", "low", "I", true)
  | _ => ("ContainerKit$Range", "high", "I", true)
def ty_R : Nat → FieldType := fun k => match k with
  | 0 => .int
  | 1 => .object "ContainerKit$Store"
  | 2 => .int
  | _ => .int
theorem nm_R : ∀ a, a < 4 → ∀ b, b < 4 → a ≠ b → (T_R a).2.1 ≠ (T_R b).2.1 := by decide +kernel
theorem tk_R : ∀ k, k < 4 → parseFieldDescriptor (T_R k).2.2.1 = some (ty_R k) := by decide +kernel
theorem us_R : ∀ w ∈ u_ws R_R T_R 4, w ∈ lw_tbl ∧ goodWord w = true := by
  show ∀ w ∈ [u_lay R_R T_R 0, u_lay R_R T_R 1, u_lay R_R T_R 2, u_lay R_R T_R 3], w ∈ lw_tbl ∧ goodWord w = true
  intro w hw
  simp only [List.mem_cons, List.not_mem_nil, or_false] at hw
  rcases hw with rfl | rfl | rfl | rfl
  · exact ⟨q_356, rfl⟩
  · exact ⟨q_357, rfl⟩
  · exact ⟨q_352, rfl⟩
  · exact ⟨q_354, rfl⟩
def T_W : u_T := fun k => match k with
  | 0 => ("ContainerKit$Walk", "over", "LContainerKit$Container;", false)
  | 1 => ("ContainerKit$Walk", "place", "I", false)
  | 2 => ("ContainerKit$Walk", "latest", "I", false)
  | _ => ("ContainerKit$Walk", "seenChanges", "I", false)
def ty_W : Nat → FieldType := fun k => match k with
  | 0 => .object "ContainerKit$Container"
  | 1 => .int
  | 2 => .int
  | _ => .int
theorem nm_W : ∀ a, a < 4 → ∀ b, b < 4 → a ≠ b → (T_W a).2.1 ≠ (T_W b).2.1 := by decide +kernel
theorem tk_W : ∀ k, k < 4 → parseFieldDescriptor (T_W k).2.2.1 = some (ty_W k) := by decide +kernel
theorem us_W : ∀ w ∈ u_ws R_W T_W 4, w ∈ lw_tbl ∧ goodWord w = true := by
  show ∀ w ∈ [u_lay R_W T_W 0, u_lay R_W T_W 1, u_lay R_W T_W 2, u_lay R_W T_W 3], w ∈ lw_tbl ∧ goodWord w = true
  intro w hw
  simp only [List.mem_cons, List.not_mem_nil, or_false] at hw
  rcases hw with rfl | rfl | rfl | rfl
  · exact ⟨q_42, rfl⟩
  · exact ⟨q_44, rfl⟩
  · exact ⟨q_46, rfl⟩
  · exact ⟨q_48, rfl⟩
def T_K : u_T := fun k => match k with
  | 0 => ("ContainerKit", "containers", "[LContainerKit$Container;", true)
  | 1 => ("ContainerKit", "walks", "[LContainerKit$Walk;", true)
  | _ => ("ContainerKit", "made", "I", false)
def ty_K : Nat → FieldType := fun k => match k with
  | 0 => .array (.object "ContainerKit$Container")
  | 1 => .array (.object "ContainerKit$Walk")
  | _ => .int
theorem nm_K : ∀ a, a < 3 → ∀ b, b < 3 → a ≠ b → (T_K a).2.1 ≠ (T_K b).2.1 := by decide +kernel
theorem tk_K : ∀ k, k < 3 → parseFieldDescriptor (T_K k).2.2.1 = some (ty_K k) := by decide +kernel
theorem us_K : ∀ w ∈ u_ws R_K T_K 3, w ∈ lw_tbl ∧ goodWord w = true := by
  show ∀ w ∈ [u_lay R_K T_K 0, u_lay R_K T_K 1, u_lay R_K T_K 2], w ∈ lw_tbl ∧ goodWord w = true
  intro w hw
  simp only [List.mem_cons, List.not_mem_nil, or_false] at hw
  rcases hw with rfl | rfl | rfl
  · exact ⟨q_54, rfl⟩
  · exact ⟨q_56, rfl⟩
  · exact ⟨q_58, rfl⟩
def T_M : u_T := fun k => match k with
  | 0 => ("ContainerKitModel", "code", "I", false)
  | 1 => ("ContainerKitModel", "many", "I", false)
  | 2 => ("ContainerKitModel", "kind", "[I", true)
  | 3 => ("ContainerKitModel", "of", "[I", true)
  | 4 => ("ContainerKitModel", "base", "[I", true)
  | 5 => ("ContainerKitModel", "number", "[I", true)
  | 6 => ("ContainerKitModel", "value", "[I", true)
  | 7 => ("ContainerKitModel", "count", "[I", true)
  | 8 => ("ContainerKitModel", "changes", "[I", true)
  | 9 => ("ContainerKitModel", "room", "[I", true)
  | 10 => ("ContainerKitModel", "first", "[I", true)
  | 11 => ("ContainerKitModel", "length", "[I", true)
  | 12 => ("ContainerKitModel", "seen", "[I", true)
  | 13 => ("ContainerKitModel", "over", "[I", true)
  | 14 => ("ContainerKitModel", "place", "[I", true)
  | 15 => ("ContainerKitModel", "latest", "[I", true)
  | _ => ("ContainerKitModel", "known", "[I", true)
def ty_M : Nat → FieldType := fun k => match k with
  | 0 => .int
  | 1 => .int
  | 2 => .array .int
  | 3 => .array .int
  | 4 => .array .int
  | 5 => .array .int
  | 6 => .array .int
  | 7 => .array .int
  | 8 => .array .int
  | 9 => .array .int
  | 10 => .array .int
  | 11 => .array .int
  | 12 => .array .int
  | 13 => .array .int
  | 14 => .array .int
  | 15 => .array .int
  | _ => .array .int
theorem nm_M : ∀ a, a < 17 → ∀ b, b < 17 → a ≠ b → (T_M a).2.1 ≠ (T_M b).2.1 := by decide +kernel
theorem tk_M : ∀ k, k < 17 → parseFieldDescriptor (T_M k).2.2.1 = some (ty_M k) := by decide +kernel
theorem us_M : ∀ w ∈ u_ws R_M T_M 17, w ∈ lw_tbl ∧ goodWord w = true := by
  show ∀ w ∈ [u_lay R_M T_M 0, u_lay R_M T_M 1, u_lay R_M T_M 2, u_lay R_M T_M 3, u_lay R_M T_M 4, u_lay R_M T_M 5, u_lay R_M T_M 6, u_lay R_M T_M 7, u_lay R_M T_M 8, u_lay R_M T_M 9, u_lay R_M T_M 10, u_lay R_M T_M 11, u_lay R_M T_M 12, u_lay R_M T_M 13, u_lay R_M T_M 14, u_lay R_M T_M 15, u_lay R_M T_M 16], w ∈ lw_tbl ∧ goodWord w = true
  intro w hw
  simp only [List.mem_cons, List.not_mem_nil, or_false] at hw
  rcases hw with rfl | rfl | rfl | rfl | rfl | rfl | rfl | rfl | rfl | rfl | rfl | rfl | rfl | rfl | rfl | rfl | rfl
  · exact ⟨q_864, rfl⟩
  · exact ⟨q_866, rfl⟩
  · exact ⟨q_868, rfl⟩
  · exact ⟨q_870, rfl⟩
  · exact ⟨q_872, rfl⟩
  · exact ⟨q_874, rfl⟩
  · exact ⟨q_876, rfl⟩
  · exact ⟨q_878, rfl⟩
  · exact ⟨q_880, rfl⟩
  · exact ⟨q_882, rfl⟩
  · exact ⟨q_884, rfl⟩
  · exact ⟨q_886, rfl⟩
  · exact ⟨q_888, rfl⟩
  · exact ⟨q_890, rfl⟩
  · exact ⟨q_892, rfl⟩
  · exact ⟨q_894, rfl⟩
  · exact ⟨q_896, rfl⟩
/-- the classes whose objects lie in the worlds: 0 ContainerKit$Store, 1 ContainerKit$Whole, 2 ContainerKit$Part, 3 ContainerKit$Range, 4 ContainerKit$Walk, 5 ContainerKit, 6 ContainerKitModel -/
abbrev kcl : List vw_C := [(R_S, T_S, 6), (R_G, T_G, 2), (R_P, T_P, 6), (R_R, T_R, 4), (R_W, T_W, 4), (R_K, T_K, 3), (R_M, T_M, 17)]
theorem gt_S : yy_Gt kcl 0 ty_S := ⟨R_S, T_S, 6, rfl, tk_S, nm_S⟩
theorem gt_G : yy_Gt kcl 1 ty_G := ⟨R_G, T_G, 2, rfl, tk_G, nm_G⟩
theorem gt_P : yy_Gt kcl 2 ty_P := ⟨R_P, T_P, 6, rfl, tk_P, nm_P⟩
theorem gt_R : yy_Gt kcl 3 ty_R := ⟨R_R, T_R, 4, rfl, tk_R, nm_R⟩
theorem gt_W : yy_Gt kcl 4 ty_W := ⟨R_W, T_W, 4, rfl, tk_W, nm_W⟩
theorem gt_K : yy_Gt kcl 5 ty_K := ⟨R_K, T_K, 3, rfl, tk_K, nm_K⟩
theorem gt_M : yy_Gt kcl 6 ty_M := ⟨R_M, T_M, 17, rfl, tk_M, nm_M⟩
abbrev b_K_init : ByteArray := prog_1_method_1_code
def y_K_init : MethodName := ⟨R_K, "<init>", "()V"⟩
abbrev b_K_create : ByteArray := prog_1_method_2_code
def y_K_create : MethodName := ⟨R_K, "create", "(I)I"⟩
abbrev b_K_view : ByteArray := prog_1_method_3_code
def y_K_view : MethodName := ⟨R_K, "view", "(III)I"⟩
abbrev b_K_kind : ByteArray := prog_1_method_4_code
def y_K_kind : MethodName := ⟨R_K, "kind", "(I)I"⟩
abbrev b_K_size : ByteArray := prog_1_method_5_code
def y_K_size : MethodName := ⟨R_K, "size", "(I)I"⟩
abbrev b_K_get : ByteArray := prog_1_method_6_code
def y_K_get : MethodName := ⟨R_K, "get", "(II)I"⟩
abbrev b_K_set : ByteArray := prog_1_method_7_code
def y_K_set : MethodName := ⟨R_K, "set", "(III)I"⟩
abbrev b_K_insert : ByteArray := prog_1_method_8_code
def y_K_insert : MethodName := ⟨R_K, "insert", "(III)V"⟩
abbrev b_K_remove : ByteArray := prog_1_method_9_code
def y_K_remove : MethodName := ⟨R_K, "remove", "(II)I"⟩
abbrev b_K_sort : ByteArray := prog_1_method_10_code
def y_K_sort : MethodName := ⟨R_K, "sort", "(II)V"⟩
abbrev b_K_put : ByteArray := prog_1_method_11_code
def y_K_put : MethodName := ⟨R_K, "put", "(III)Z"⟩
abbrev b_K_merge : ByteArray := prog_1_method_12_code
def y_K_merge : MethodName := ⟨R_K, "merge", "(III)I"⟩
abbrev b_K_has : ByteArray := prog_1_method_13_code
def y_K_has : MethodName := ⟨R_K, "has", "(II)Z"⟩
abbrev b_K_value : ByteArray := prog_1_method_14_code
def y_K_value : MethodName := ⟨R_K, "value", "(II)I"⟩
abbrev b_K_drop : ByteArray := prog_1_method_15_code
def y_K_drop : MethodName := ⟨R_K, "drop", "(II)I"⟩
abbrev b_K_near : ByteArray := prog_1_method_16_code
def y_K_near : MethodName := ⟨R_K, "near", "(III)I"⟩
abbrev b_K_room : ByteArray := prog_1_method_17_code
def y_K_room : MethodName := ⟨R_K, "room", "(I)I"⟩
abbrev b_K_bucket : ByteArray := prog_1_method_18_code
def y_K_bucket : MethodName := ⟨R_K, "bucket", "(II)I"⟩
abbrev b_K_sift : ByteArray := prog_1_method_19_code
def y_K_sift : MethodName := ⟨R_K, "sift", "(III)I"⟩
abbrev b_K_same : ByteArray := prog_1_method_20_code
def y_K_same : MethodName := ⟨R_K, "same", "(II)Z"⟩
abbrev b_K_open : ByteArray := prog_1_method_21_code
def y_K_open : MethodName := ⟨R_K, "open", "(II)V"⟩
abbrev b_K_next : ByteArray := prog_1_method_22_code
def y_K_next : MethodName := ⟨R_K, "next", "(IZ)I"⟩
abbrev b_K_left : ByteArray := prog_1_method_23_code
def y_K_left : MethodName := ⟨R_K, "left", "(I)I"⟩
abbrev b_K_erase : ByteArray := prog_1_method_24_code
def y_K_erase : MethodName := ⟨R_K, "erase", "(I)V"⟩
abbrev b_K_assign : ByteArray := prog_1_method_25_code
def y_K_assign : MethodName := ⟨R_K, "assign", "(II)I"⟩
abbrev b_K_plant : ByteArray := prog_1_method_26_code
def y_K_plant : MethodName := ⟨R_K, "plant", "(II)V"⟩
abbrev b_K_containerAt : ByteArray := prog_1_method_27_code
def y_K_containerAt : MethodName := ⟨R_K, "containerAt", "(I)LContainerKit$Container;"⟩
abbrev b_K_mapAt : ByteArray := prog_1_method_28_code
def y_K_mapAt : MethodName := ⟨R_K, "mapAt", "(I)LContainerKit$Container;"⟩
abbrev b_K_freshList : ByteArray := prog_1_method_29_code
def y_K_freshList : MethodName := ⟨R_K, "freshList", "(I)LContainerKit$Container;"⟩
abbrev b_K_freshListOrHeap : ByteArray := prog_1_method_30_code
def y_K_freshListOrHeap : MethodName := ⟨R_K, "freshListOrHeap", "(I)LContainerKit$Container;"⟩
abbrev b_K_walkAt : ByteArray := prog_1_method_31_code
def y_K_walkAt : MethodName := ⟨R_K, "walkAt", "(I)LContainerKit$Walk;"⟩
abbrev b_K_openedWalkAt : ByteArray := prog_1_method_32_code
def y_K_openedWalkAt : MethodName := ⟨R_K, "openedWalkAt", "(I)LContainerKit$Walk;"⟩
abbrev b_K_keepContainer : ByteArray := prog_1_method_33_code
def y_K_keepContainer : MethodName := ⟨R_K, "keepContainer", "(LContainerKit$Container;)I"⟩
abbrev b_K_partOf : ByteArray := prog_1_method_34_code
def y_K_partOf : MethodName := ⟨R_K, "partOf", "(LContainerKit$Container;II)LContainerKit$Container;"⟩
abbrev b_K_rangeOf : ByteArray := prog_1_method_35_code
def y_K_rangeOf : MethodName := ⟨R_K, "rangeOf", "(LContainerKit$Container;II)LContainerKit$Container;"⟩
abbrev b_K_demandOneMoreContainer : ByteArray := prog_1_method_36_code
def y_K_demandOneMoreContainer : MethodName := ⟨R_K, "demandOneMoreContainer", "()V"⟩
abbrev b_K_demandKind : ByteArray := prog_1_method_37_code
def y_K_demandKind : MethodName := ⟨R_K, "demandKind", "(Z)V"⟩
abbrev b_K_demandArgument : ByteArray := prog_1_method_38_code
def y_K_demandArgument : MethodName := ⟨R_K, "demandArgument", "(Z)V"⟩
abbrev b_K_demandThere : ByteArray := prog_1_method_39_code
def y_K_demandThere : MethodName := ⟨R_K, "demandThere", "(Z)V"⟩
abbrev b_K_demandFresh : ByteArray := prog_1_method_40_code
def y_K_demandFresh : MethodName := ⟨R_K, "demandFresh", "(LContainerKit$Container;)V"⟩
abbrev b_K_demandFreshWalk : ByteArray := prog_1_method_41_code
def y_K_demandFreshWalk : MethodName := ⟨R_K, "demandFreshWalk", "(LContainerKit$Walk;)V"⟩
abbrev b_K_demandSpace : ByteArray := prog_1_method_42_code
def y_K_demandSpace : MethodName := ⟨R_K, "demandSpace", "(LContainerKit$Store;)V"⟩
abbrev b_K_demandKeyFits : ByteArray := prog_1_method_43_code
def y_K_demandKeyFits : MethodName := ⟨R_K, "demandKeyFits", "(LContainerKit$Container;I)V"⟩
abbrev b_M_init : ByteArray := prog_9_method_1_code
def y_M_init : MethodName := ⟨R_M, "<init>", "()V"⟩
abbrev b_M_thrown : ByteArray := prog_9_method_2_code
def y_M_thrown : MethodName := ⟨R_M, "thrown", "()I"⟩
abbrev b_M_fail : ByteArray := prog_9_method_3_code
def y_M_fail : MethodName := ⟨R_M, "fail", "(I)I"⟩
abbrev b_M_isThere : ByteArray := prog_9_method_4_code
def y_M_isThere : MethodName := ⟨R_M, "isThere", "(I)Z"⟩
abbrev b_M_isList : ByteArray := prog_9_method_5_code
def y_M_isList : MethodName := ⟨R_M, "isList", "(I)Z"⟩
abbrev b_M_isMap : ByteArray := prog_9_method_6_code
def y_M_isMap : MethodName := ⟨R_M, "isMap", "(I)Z"⟩
abbrev b_M_isTree : ByteArray := prog_9_method_7_code
def y_M_isTree : MethodName := ⟨R_M, "isTree", "(I)Z"⟩
abbrev b_M_hashes : ByteArray := prog_9_method_8_code
def y_M_hashes : MethodName := ⟨R_M, "hashes", "(I)Z"⟩
abbrev b_M_isStale : ByteArray := prog_9_method_9_code
def y_M_isStale : MethodName := ⟨R_M, "isStale", "(I)Z"⟩
abbrev b_M_make : ByteArray := prog_9_method_10_code
def y_M_make : MethodName := ⟨R_M, "make", "(II)I"⟩
abbrev b_M_create : ByteArray := prog_9_method_11_code
def y_M_create : MethodName := ⟨R_M, "create", "(I)I"⟩
abbrev b_M_view : ByteArray := prog_9_method_12_code
def y_M_view : MethodName := ⟨R_M, "view", "(III)I"⟩
abbrev b_M_kind : ByteArray := prog_9_method_13_code
def y_M_kind : MethodName := ⟨R_M, "kind", "(I)I"⟩
abbrev b_M_isIn : ByteArray := prog_9_method_14_code
def y_M_isIn : MethodName := ⟨R_M, "isIn", "(II)Z"⟩
abbrev b_M_placeIn : ByteArray := prog_9_method_15_code
def y_M_placeIn : MethodName := ⟨R_M, "placeIn", "(I)I"⟩
abbrev b_M_sizeOf : ByteArray := prog_9_method_16_code
def y_M_sizeOf : MethodName := ⟨R_M, "sizeOf", "(I)I"⟩
abbrev b_M_size : ByteArray := prog_9_method_17_code
def y_M_size : MethodName := ⟨R_M, "size", "(I)I"⟩
abbrev b_M_at : ByteArray := prog_9_method_18_code
def y_M_at : MethodName := ⟨R_M, "at", "(II)I"⟩
abbrev b_M_changed : ByteArray := prog_9_method_19_code
def y_M_changed : MethodName := ⟨R_M, "changed", "(II)V"⟩
abbrev b_M_putIn : ByteArray := prog_9_method_20_code
def y_M_putIn : MethodName := ⟨R_M, "putIn", "(IIII)V"⟩
abbrev b_M_takeOut : ByteArray := prog_9_method_21_code
def y_M_takeOut : MethodName := ⟨R_M, "takeOut", "(II)V"⟩
abbrev b_M_checkList : ByteArray := prog_9_method_22_code
def y_M_checkList : MethodName := ⟨R_M, "checkList", "(II)I"⟩
abbrev b_M_get : ByteArray := prog_9_method_23_code
def y_M_get : MethodName := ⟨R_M, "get", "(II)I"⟩
abbrev b_M_set : ByteArray := prog_9_method_24_code
def y_M_set : MethodName := ⟨R_M, "set", "(III)I"⟩
abbrev b_M_insertAt : ByteArray := prog_9_method_25_code
def y_M_insertAt : MethodName := ⟨R_M, "insertAt", "(III)V"⟩
abbrev b_M_insert : ByteArray := prog_9_method_26_code
def y_M_insert : MethodName := ⟨R_M, "insert", "(III)V"⟩
abbrev b_M_remove : ByteArray := prog_9_method_27_code
def y_M_remove : MethodName := ⟨R_M, "remove", "(II)I"⟩
abbrev b_M_modulo : ByteArray := prog_9_method_28_code
def y_M_modulo : MethodName := ⟨R_M, "modulo", "(II)I"⟩
abbrev b_M_isBefore : ByteArray := prog_9_method_29_code
def y_M_isBefore : MethodName := ⟨R_M, "isBefore", "(III)Z"⟩
abbrev b_M_sort : ByteArray := prog_9_method_30_code
def y_M_sort : MethodName := ⟨R_M, "sort", "(II)V"⟩
abbrev b_M_checkMap : ByteArray := prog_9_method_31_code
def y_M_checkMap : MethodName := ⟨R_M, "checkMap", "(I)I"⟩
abbrev b_M_find : ByteArray := prog_9_method_32_code
def y_M_find : MethodName := ⟨R_M, "find", "(II)I"⟩
abbrev b_M_freshen : ByteArray := prog_9_method_33_code
def y_M_freshen : MethodName := ⟨R_M, "freshen", "(II)V"⟩
abbrev b_M_add : ByteArray := prog_9_method_34_code
def y_M_add : MethodName := ⟨R_M, "add", "(III)V"⟩
abbrev b_M_lookUp : ByteArray := prog_9_method_35_code
def y_M_lookUp : MethodName := ⟨R_M, "lookUp", "(II)I"⟩
abbrev b_M_put : ByteArray := prog_9_method_36_code
def y_M_put : MethodName := ⟨R_M, "put", "(III)Z"⟩
abbrev b_M_merge : ByteArray := prog_9_method_37_code
def y_M_merge : MethodName := ⟨R_M, "merge", "(III)I"⟩
abbrev b_M_has : ByteArray := prog_9_method_38_code
def y_M_has : MethodName := ⟨R_M, "has", "(II)Z"⟩
abbrev b_M_value : ByteArray := prog_9_method_39_code
def y_M_value : MethodName := ⟨R_M, "value", "(II)I"⟩
abbrev b_M_drop : ByteArray := prog_9_method_40_code
def y_M_drop : MethodName := ⟨R_M, "drop", "(II)I"⟩
abbrev b_M_fits : ByteArray := prog_9_method_41_code
def y_M_fits : MethodName := ⟨R_M, "fits", "(III)Z"⟩
abbrev b_M_near : ByteArray := prog_9_method_42_code
def y_M_near : MethodName := ⟨R_M, "near", "(III)I"⟩
abbrev b_M_room : ByteArray := prog_9_method_43_code
def y_M_room : MethodName := ⟨R_M, "room", "(I)I"⟩
abbrev b_M_spread : ByteArray := prog_9_method_44_code
def y_M_spread : MethodName := ⟨R_M, "spread", "(I)I"⟩
abbrev b_M_bucket : ByteArray := prog_9_method_45_code
def y_M_bucket : MethodName := ⟨R_M, "bucket", "(II)I"⟩
abbrev b_M_sift : ByteArray := prog_9_method_46_code
def y_M_sift : MethodName := ⟨R_M, "sift", "(III)I"⟩
abbrev b_M_same : ByteArray := prog_9_method_47_code
def y_M_same : MethodName := ⟨R_M, "same", "(II)Z"⟩
abbrev b_M_open : ByteArray := prog_9_method_48_code
def y_M_open : MethodName := ⟨R_M, "open", "(II)V"⟩
abbrev b_M_isOpen : ByteArray := prog_9_method_49_code
def y_M_isOpen : MethodName := ⟨R_M, "isOpen", "(I)Z"⟩
abbrev b_M_isLost : ByteArray := prog_9_method_50_code
def y_M_isLost : MethodName := ⟨R_M, "isLost", "(I)Z"⟩
abbrev b_M_next : ByteArray := prog_9_method_51_code
def y_M_next : MethodName := ⟨R_M, "next", "(IZ)I"⟩
abbrev b_M_left : ByteArray := prog_9_method_52_code
def y_M_left : MethodName := ⟨R_M, "left", "(I)I"⟩
abbrev b_M_checkLatest : ByteArray := prog_9_method_53_code
def y_M_checkLatest : MethodName := ⟨R_M, "checkLatest", "(I)I"⟩
abbrev b_M_settle : ByteArray := prog_9_method_54_code
def y_M_settle : MethodName := ⟨R_M, "settle", "(II)V"⟩
abbrev b_M_erase : ByteArray := prog_9_method_55_code
def y_M_erase : MethodName := ⟨R_M, "erase", "(I)V"⟩
abbrev b_M_assign : ByteArray := prog_9_method_56_code
def y_M_assign : MethodName := ⟨R_M, "assign", "(II)I"⟩
abbrev b_M_plant : ByteArray := prog_9_method_57_code
def y_M_plant : MethodName := ⟨R_M, "plant", "(II)V"⟩
abbrev b_C_init : ByteArray := prog_2_method_1_code
def y_C_init : MethodName := ⟨R_C, "<init>", "(ILContainerKit$Store;)V"⟩
abbrev b_C_isStale : ByteArray := prog_2_method_4_code
def y_C_isStale : MethodName := ⟨R_C, "isStale", "()Z"⟩
abbrev b_C_covers : ByteArray := prog_2_method_5_code
def y_C_covers : MethodName := ⟨R_C, "covers", "(I)Z"⟩
abbrev b_C_follow : ByteArray := prog_2_method_6_code
def y_C_follow : MethodName := ⟨R_C, "follow", "(I)V"⟩
abbrev b_C_isList : ByteArray := prog_2_method_7_code
def y_C_isList : MethodName := ⟨R_C, "isList", "()Z"⟩
abbrev b_C_isMap : ByteArray := prog_2_method_8_code
def y_C_isMap : MethodName := ⟨R_C, "isMap", "()Z"⟩
abbrev b_C_isHashed : ByteArray := prog_2_method_9_code
def y_C_isHashed : MethodName := ⟨R_C, "isHashed", "()Z"⟩
abbrev b_C_isSorted : ByteArray := prog_2_method_10_code
def y_C_isSorted : MethodName := ⟨R_C, "isSorted", "()Z"⟩
abbrev b_C_isPlace : ByteArray := prog_2_method_11_code
def y_C_isPlace : MethodName := ⟨R_C, "isPlace", "(I)Z"⟩
abbrev b_C_numberAt : ByteArray := prog_2_method_12_code
def y_C_numberAt : MethodName := ⟨R_C, "numberAt", "(I)I"⟩
abbrev b_C_valueAt : ByteArray := prog_2_method_13_code
def y_C_valueAt : MethodName := ⟨R_C, "valueAt", "(I)I"⟩
abbrev b_C_placeOf : ByteArray := prog_2_method_14_code
def y_C_placeOf : MethodName := ⟨R_C, "placeOf", "(I)I"⟩
abbrev b_C_placesBefore : ByteArray := prog_2_method_15_code
def y_C_placesBefore : MethodName := ⟨R_C, "placesBefore", "(IZ)I"⟩
abbrev b_C_changeNumber : ByteArray := prog_2_method_16_code
def y_C_changeNumber : MethodName := ⟨R_C, "changeNumber", "(II)I"⟩
abbrev b_C_changeValue : ByteArray := prog_2_method_17_code
def y_C_changeValue : MethodName := ⟨R_C, "changeValue", "(II)I"⟩
abbrev b_C_bring : ByteArray := prog_2_method_18_code
def y_C_bring : MethodName := ⟨R_C, "bring", "(II)V"⟩
abbrev b_C_take : ByteArray := prog_2_method_19_code
def y_C_take : MethodName := ⟨R_C, "take", "(I)I"⟩
abbrev b_C_arrange : ByteArray := prog_2_method_20_code
def y_C_arrange : MethodName := ⟨R_C, "arrange", "(I)V"⟩
abbrev b_C_takeAll : ByteArray := prog_2_method_21_code
def y_C_takeAll : MethodName := ⟨R_C, "takeAll", "(II)I"⟩
abbrev b_C_hasNumbersOf : ByteArray := prog_2_method_22_code
def y_C_hasNumbersOf : MethodName := ⟨R_C, "hasNumbersOf", "(LContainerKit$Container;)Z"⟩
abbrev b_C_hasPairsOf : ByteArray := prog_2_method_23_code
def y_C_hasPairsOf : MethodName := ⟨R_C, "hasPairsOf", "(LContainerKit$Container;)Z"⟩
abbrev b_P_init : ByteArray := prog_3_method_1_code
def y_P_init : MethodName := ⟨R_P, "<init>", "(LContainerKit$Store;LContainerKit$Part;II)V"⟩
abbrev b_P_start : ByteArray := prog_3_method_2_code
def y_P_start : MethodName := ⟨R_P, "start", "()I"⟩
abbrev b_P_count : ByteArray := prog_3_method_3_code
def y_P_count : MethodName := ⟨R_P, "count", "()I"⟩
abbrev b_P_isStale : ByteArray := prog_3_method_4_code
def y_P_isStale : MethodName := ⟨R_P, "isStale", "()Z"⟩
abbrev b_P_follow : ByteArray := prog_3_method_5_code
def y_P_follow : MethodName := ⟨R_P, "follow", "(I)V"⟩
abbrev b_R_init : ByteArray := prog_4_method_1_code
def y_R_init : MethodName := ⟨R_R, "<init>", "(LContainerKit$Store;II)V"⟩
abbrev b_R_start : ByteArray := prog_4_method_2_code
def y_R_start : MethodName := ⟨R_R, "start", "()I"⟩
abbrev b_R_count : ByteArray := prog_4_method_3_code
def y_R_count : MethodName := ⟨R_R, "count", "()I"⟩
abbrev b_R_covers : ByteArray := prog_4_method_4_code
def y_R_covers : MethodName := ⟨R_R, "covers", "(I)Z"⟩
abbrev b_S_init : ByteArray := prog_5_method_1_code
def y_S_init : MethodName := ⟨R_S, "<init>", "(I)V"⟩
abbrev b_S_isFull : ByteArray := prog_5_method_2_code
def y_S_isFull : MethodName := ⟨R_S, "isFull", "()Z"⟩
abbrev b_S_isHeld : ByteArray := prog_5_method_3_code
def y_S_isHeld : MethodName := ⟨R_S, "isHeld", "(I)Z"⟩
abbrev b_S_numberAt : ByteArray := prog_5_method_4_code
def y_S_numberAt : MethodName := ⟨R_S, "numberAt", "(I)I"⟩
abbrev b_S_valueAt : ByteArray := prog_5_method_5_code
def y_S_valueAt : MethodName := ⟨R_S, "valueAt", "(I)I"⟩
abbrev b_S_setNumber : ByteArray := prog_5_method_6_code
def y_S_setNumber : MethodName := ⟨R_S, "setNumber", "(II)V"⟩
abbrev b_S_setValue : ByteArray := prog_5_method_7_code
def y_S_setValue : MethodName := ⟨R_S, "setValue", "(II)V"⟩
abbrev b_S_placeOf : ByteArray := prog_5_method_8_code
def y_S_placeOf : MethodName := ⟨R_S, "placeOf", "(I)I"⟩
abbrev b_S_placesBefore : ByteArray := prog_5_method_9_code
def y_S_placesBefore : MethodName := ⟨R_S, "placesBefore", "(IZ)I"⟩
abbrev b_S_bringIn : ByteArray := prog_5_method_10_code
def y_S_bringIn : MethodName := ⟨R_S, "bringIn", "(III)V"⟩
abbrev b_S_takeOut : ByteArray := prog_5_method_11_code
def y_S_takeOut : MethodName := ⟨R_S, "takeOut", "(I)V"⟩
abbrev b_S_closeGap : ByteArray := prog_5_method_12_code
def y_S_closeGap : MethodName := ⟨R_S, "closeGap", "(I)V"⟩
abbrev b_S_putKey : ByteArray := prog_5_method_13_code
def y_S_putKey : MethodName := ⟨R_S, "putKey", "(II)V"⟩
abbrev b_S_bringKeyIn : ByteArray := prog_5_method_14_code
def y_S_bringKeyIn : MethodName := ⟨R_S, "bringKeyIn", "(II)V"⟩
abbrev b_S_noteUse : ByteArray := prog_5_method_15_code
def y_S_noteUse : MethodName := ⟨R_S, "noteUse", "(I)V"⟩
abbrev b_S_countInBucketOf : ByteArray := prog_5_method_16_code
def y_S_countInBucketOf : MethodName := ⟨R_S, "countInBucketOf", "(I)I"⟩
abbrev b_S_bucketOf : ByteArray := prog_5_method_17_code
def y_S_bucketOf : MethodName := ⟨R_S, "bucketOf", "(I)I"⟩
abbrev b_S_arrange : ByteArray := prog_5_method_18_code
def y_S_arrange : MethodName := ⟨R_S, "arrange", "(III)V"⟩
abbrev b_S_comesBefore : ByteArray := prog_5_method_19_code
def y_S_comesBefore : MethodName := ⟨R_S, "comesBefore", "(III)Z"⟩
abbrev b_W_init : ByteArray := prog_6_method_1_code
def y_W_init : MethodName := ⟨R_W, "<init>", "()V"⟩
abbrev b_W_begin : ByteArray := prog_6_method_2_code
def y_W_begin : MethodName := ⟨R_W, "begin", "(LContainerKit$Container;)V"⟩
abbrev b_W_standAt : ByteArray := prog_6_method_3_code
def y_W_standAt : MethodName := ⟨R_W, "standAt", "(I)V"⟩
abbrev b_W_goOver : ByteArray := prog_6_method_4_code
def y_W_goOver : MethodName := ⟨R_W, "goOver", "(IZ)V"⟩
abbrev b_W_isStale : ByteArray := prog_6_method_5_code
def y_W_isStale : MethodName := ⟨R_W, "isStale", "()Z"⟩
abbrev b_G_init : ByteArray := prog_7_method_1_code
def y_G_init : MethodName := ⟨R_G, "<init>", "(I)V"⟩
abbrev b_G_start : ByteArray := prog_7_method_2_code
def y_G_start : MethodName := ⟨R_G, "start", "()I"⟩
abbrev b_G_count : ByteArray := prog_7_method_3_code
def y_G_count : MethodName := ⟨R_G, "count", "()I"⟩
abbrev b_L_create : ByteArray := method_3_code
def y_L_create : MethodName := ⟨R_L, "create", "(LContainerKit;I[J)I"⟩
abbrev b_L_view : ByteArray := method_4_code
def y_L_view : MethodName := ⟨R_L, "view", "(LContainerKit;III[J)I"⟩
abbrev b_L_kind : ByteArray := method_5_code
def y_L_kind : MethodName := ⟨R_L, "kind", "(LContainerKit;I[J)I"⟩
abbrev b_L_size : ByteArray := method_6_code
def y_L_size : MethodName := ⟨R_L, "size", "(LContainerKit;I[J)I"⟩
abbrev b_L_get : ByteArray := method_7_code
def y_L_get : MethodName := ⟨R_L, "get", "(LContainerKit;II[J)I"⟩
abbrev b_L_set : ByteArray := method_8_code
def y_L_set : MethodName := ⟨R_L, "set", "(LContainerKit;III[J)I"⟩
abbrev b_L_insert : ByteArray := method_9_code
def y_L_insert : MethodName := ⟨R_L, "insert", "(LContainerKit;III)I"⟩
abbrev b_L_remove : ByteArray := method_10_code
def y_L_remove : MethodName := ⟨R_L, "remove", "(LContainerKit;II[J)I"⟩
abbrev b_L_sort : ByteArray := method_11_code
def y_L_sort : MethodName := ⟨R_L, "sort", "(LContainerKit;II)I"⟩
abbrev b_L_put : ByteArray := method_12_code
def y_L_put : MethodName := ⟨R_L, "put", "(LContainerKit;III[J)I"⟩
abbrev b_L_merge : ByteArray := method_13_code
def y_L_merge : MethodName := ⟨R_L, "merge", "(LContainerKit;III[J)I"⟩
abbrev b_L_has : ByteArray := method_14_code
def y_L_has : MethodName := ⟨R_L, "has", "(LContainerKit;II[J)I"⟩
abbrev b_L_value : ByteArray := method_15_code
def y_L_value : MethodName := ⟨R_L, "value", "(LContainerKit;II[J)I"⟩
abbrev b_L_drop : ByteArray := method_16_code
def y_L_drop : MethodName := ⟨R_L, "drop", "(LContainerKit;II[J)I"⟩
abbrev b_L_near : ByteArray := method_17_code
def y_L_near : MethodName := ⟨R_L, "near", "(LContainerKit;III[J)I"⟩
abbrev b_L_room : ByteArray := method_18_code
def y_L_room : MethodName := ⟨R_L, "room", "(LContainerKit;I[J)I"⟩
abbrev b_L_bucket : ByteArray := method_19_code
def y_L_bucket : MethodName := ⟨R_L, "bucket", "(LContainerKit;II[J)I"⟩
abbrev b_L_sift : ByteArray := method_20_code
def y_L_sift : MethodName := ⟨R_L, "sift", "(LContainerKit;III[J)I"⟩
abbrev b_L_same : ByteArray := method_21_code
def y_L_same : MethodName := ⟨R_L, "same", "(LContainerKit;II[J)I"⟩
abbrev b_L_open : ByteArray := method_22_code
def y_L_open : MethodName := ⟨R_L, "open", "(LContainerKit;II)I"⟩
abbrev b_L_next : ByteArray := method_23_code
def y_L_next : MethodName := ⟨R_L, "next", "(LContainerKit;IZ[J)I"⟩
abbrev b_L_left : ByteArray := method_24_code
def y_L_left : MethodName := ⟨R_L, "left", "(LContainerKit;I[J)I"⟩
abbrev b_L_erase : ByteArray := method_25_code
def y_L_erase : MethodName := ⟨R_L, "erase", "(LContainerKit;I)I"⟩
abbrev b_L_assign : ByteArray := method_26_code
def y_L_assign : MethodName := ⟨R_L, "assign", "(LContainerKit;II[J)I"⟩
abbrev b_L_plant : ByteArray := method_27_code
def y_L_plant : MethodName := ⟨R_L, "plant", "(LContainerKit;II)I"⟩
abbrev b_L_law : ByteArray := code
def y_L_law : MethodName := ⟨R_L, "law", "([I)Z"⟩
abbrev b_X_max : ByteArray := prog_14_method_65_code
def y_X_max : MethodName := ⟨R_X, "max", "(II)I"⟩
abbrev b_X_min : ByteArray := prog_14_method_69_code
def y_X_min : MethodName := ⟨R_X, "min", "(II)I"⟩
abbrev b_X_floorMod : ByteArray := prog_14_method_50_code
def y_X_floorMod : MethodName := ⟨R_X, "floorMod", "(II)I"⟩
theorem g_K_11_K : yy_G lw_tbl kcl R_K 11 5 0 := ⟨R_K, T_K, 3, "ContainerKit", rfl, by decide, us_K, Or.inl q_51, Or.inl rfl⟩
theorem g_K_17_K : yy_G lw_tbl kcl R_K 17 5 1 := ⟨R_K, T_K, 3, "ContainerKit", rfl, by decide, us_K, Or.inl q_52, Or.inl rfl⟩
theorem g_K_21_K : yy_G lw_tbl kcl R_K 21 5 2 := ⟨R_K, T_K, 3, "ContainerKit", rfl, by decide, us_K, Or.inl q_53, Or.inl rfl⟩
theorem g_K_71_G : yy_G lw_tbl kcl R_K 71 1 0 := ⟨R_G, T_G, 2, "ContainerKit$Container", rfl, by decide, us_G, Or.inl q_204, Or.inl rfl⟩
theorem g_K_71_P : yy_G lw_tbl kcl R_K 71 2 0 := ⟨R_P, T_P, 6, "ContainerKit$Container", rfl, by decide, us_P, Or.inl q_204, Or.inl rfl⟩
theorem g_K_71_R : yy_G lw_tbl kcl R_K 71 3 0 := ⟨R_R, T_R, 4, "ContainerKit$Container", rfl, by decide, us_R, Or.inl q_204, Or.inl rfl⟩
theorem g_K_95_G : yy_G lw_tbl kcl R_K 95 1 1 := ⟨R_G, T_G, 2, "ContainerKit$Container", rfl, by decide, us_G, Or.inl q_213, Or.inl rfl⟩
theorem g_K_95_P : yy_G lw_tbl kcl R_K 95 2 1 := ⟨R_P, T_P, 6, "ContainerKit$Container", rfl, by decide, us_P, Or.inl q_213, Or.inl rfl⟩
theorem g_K_95_R : yy_G lw_tbl kcl R_K 95 3 1 := ⟨R_R, T_R, 4, "ContainerKit$Container", rfl, by decide, us_R, Or.inl q_213, Or.inl rfl⟩
theorem g_K_142_S : yy_G lw_tbl kcl R_K 142 0 4 := ⟨R_S, T_S, 6, "ContainerKit$Store", rfl, by decide, us_S, Or.inr ⟨_, q_181⟩, Or.inl rfl⟩
theorem g_K_171_W : yy_G lw_tbl kcl R_K 171 4 0 := ⟨R_W, T_W, 4, "ContainerKit$Walk", rfl, by decide, us_W, Or.inr ⟨_, q_36⟩, Or.inl rfl⟩
theorem g_K_179_W : yy_G lw_tbl kcl R_K 179 4 1 := ⟨R_W, T_W, 4, "ContainerKit$Walk", rfl, by decide, us_W, Or.inr ⟨_, q_38⟩, Or.inl rfl⟩
theorem g_K_186_W : yy_G lw_tbl kcl R_K 186 4 2 := ⟨R_W, T_W, 4, "ContainerKit$Walk", rfl, by decide, us_W, Or.inr ⟨_, q_40⟩, Or.inl rfl⟩
theorem g_K_216_R : yy_G lw_tbl kcl R_K 216 3 1 := ⟨R_R, T_R, 4, "ContainerKit$Range", rfl, by decide, us_R, Or.inl q_214, Or.inr q_207⟩
theorem g_K_217_R : yy_G lw_tbl kcl R_K 217 3 2 := ⟨R_R, T_R, 4, "ContainerKit$Range", rfl, by decide, us_R, Or.inr ⟨_, q_349⟩, Or.inl rfl⟩
theorem g_K_225_R : yy_G lw_tbl kcl R_K 225 3 3 := ⟨R_R, T_R, 4, "ContainerKit$Range", rfl, by decide, us_R, Or.inr ⟨_, q_351⟩, Or.inl rfl⟩
theorem g_M_7_M : yy_G lw_tbl kcl R_M 7 6 2 := ⟨R_M, T_M, 17, "ContainerKitModel", rfl, by decide, us_M, Or.inl q_849, Or.inl rfl⟩
theorem g_M_13_M : yy_G lw_tbl kcl R_M 13 6 3 := ⟨R_M, T_M, 17, "ContainerKitModel", rfl, by decide, us_M, Or.inl q_850, Or.inl rfl⟩
theorem g_M_16_M : yy_G lw_tbl kcl R_M 16 6 4 := ⟨R_M, T_M, 17, "ContainerKitModel", rfl, by decide, us_M, Or.inl q_851, Or.inl rfl⟩
theorem g_M_19_M : yy_G lw_tbl kcl R_M 19 6 5 := ⟨R_M, T_M, 17, "ContainerKitModel", rfl, by decide, us_M, Or.inl q_852, Or.inl rfl⟩
theorem g_M_22_M : yy_G lw_tbl kcl R_M 22 6 6 := ⟨R_M, T_M, 17, "ContainerKitModel", rfl, by decide, us_M, Or.inl q_853, Or.inl rfl⟩
theorem g_M_25_M : yy_G lw_tbl kcl R_M 25 6 7 := ⟨R_M, T_M, 17, "ContainerKitModel", rfl, by decide, us_M, Or.inl q_854, Or.inl rfl⟩
theorem g_M_28_M : yy_G lw_tbl kcl R_M 28 6 8 := ⟨R_M, T_M, 17, "ContainerKitModel", rfl, by decide, us_M, Or.inl q_855, Or.inl rfl⟩
theorem g_M_31_M : yy_G lw_tbl kcl R_M 31 6 9 := ⟨R_M, T_M, 17, "ContainerKitModel", rfl, by decide, us_M, Or.inl q_856, Or.inl rfl⟩
theorem g_M_34_M : yy_G lw_tbl kcl R_M 34 6 10 := ⟨R_M, T_M, 17, "ContainerKitModel", rfl, by decide, us_M, Or.inl q_857, Or.inl rfl⟩
theorem g_M_37_M : yy_G lw_tbl kcl R_M 37 6 11 := ⟨R_M, T_M, 17, "ContainerKitModel", rfl, by decide, us_M, Or.inl q_858, Or.inl rfl⟩
theorem g_M_40_M : yy_G lw_tbl kcl R_M 40 6 12 := ⟨R_M, T_M, 17, "ContainerKitModel", rfl, by decide, us_M, Or.inl q_859, Or.inl rfl⟩
theorem g_M_43_M : yy_G lw_tbl kcl R_M 43 6 13 := ⟨R_M, T_M, 17, "ContainerKitModel", rfl, by decide, us_M, Or.inl q_860, Or.inl rfl⟩
theorem g_M_46_M : yy_G lw_tbl kcl R_M 46 6 14 := ⟨R_M, T_M, 17, "ContainerKitModel", rfl, by decide, us_M, Or.inl q_861, Or.inl rfl⟩
theorem g_M_49_M : yy_G lw_tbl kcl R_M 49 6 15 := ⟨R_M, T_M, 17, "ContainerKitModel", rfl, by decide, us_M, Or.inl q_862, Or.inl rfl⟩
theorem g_M_52_M : yy_G lw_tbl kcl R_M 52 6 16 := ⟨R_M, T_M, 17, "ContainerKitModel", rfl, by decide, us_M, Or.inl q_863, Or.inl rfl⟩
theorem g_M_55_M : yy_G lw_tbl kcl R_M 55 6 0 := ⟨R_M, T_M, 17, "ContainerKitModel", rfl, by decide, us_M, Or.inl q_847, Or.inl rfl⟩
theorem g_M_59_M : yy_G lw_tbl kcl R_M 59 6 1 := ⟨R_M, T_M, 17, "ContainerKitModel", rfl, by decide, us_M, Or.inl q_848, Or.inl rfl⟩
theorem g_C_9_G : yy_G lw_tbl kcl R_C 9 1 0 := ⟨R_G, T_G, 2, "ContainerKit$Container", rfl, by decide, us_G, Or.inl q_203, Or.inl rfl⟩
theorem g_C_9_P : yy_G lw_tbl kcl R_C 9 2 0 := ⟨R_P, T_P, 6, "ContainerKit$Container", rfl, by decide, us_P, Or.inl q_203, Or.inl rfl⟩
theorem g_C_9_R : yy_G lw_tbl kcl R_C 9 3 0 := ⟨R_R, T_R, 4, "ContainerKit$Container", rfl, by decide, us_R, Or.inl q_203, Or.inl rfl⟩
theorem g_C_15_G : yy_G lw_tbl kcl R_C 15 1 1 := ⟨R_G, T_G, 2, "ContainerKit$Container", rfl, by decide, us_G, Or.inl q_205, Or.inl rfl⟩
theorem g_C_15_P : yy_G lw_tbl kcl R_C 15 2 1 := ⟨R_P, T_P, 6, "ContainerKit$Container", rfl, by decide, us_P, Or.inl q_205, Or.inl rfl⟩
theorem g_C_15_R : yy_G lw_tbl kcl R_C 15 3 1 := ⟨R_R, T_R, 4, "ContainerKit$Container", rfl, by decide, us_R, Or.inl q_205, Or.inl rfl⟩
theorem g_P_9_P : yy_G lw_tbl kcl R_P 9 2 2 := ⟨R_P, T_P, 6, "ContainerKit$Part", rfl, by decide, us_P, Or.inl q_378, Or.inl rfl⟩
theorem g_P_15_P : yy_G lw_tbl kcl R_P 15 2 3 := ⟨R_P, T_P, 6, "ContainerKit$Part", rfl, by decide, us_P, Or.inl q_379, Or.inl rfl⟩
theorem g_P_19_P : yy_G lw_tbl kcl R_P 19 2 4 := ⟨R_P, T_P, 6, "ContainerKit$Part", rfl, by decide, us_P, Or.inl q_380, Or.inl rfl⟩
theorem g_P_22_S : yy_G lw_tbl kcl R_P 22 0 5 := ⟨R_S, T_S, 6, "ContainerKit$Store", rfl, by decide, us_S, Or.inr ⟨_, q_182⟩, Or.inl rfl⟩
theorem g_P_27_P : yy_G lw_tbl kcl R_P 27 2 5 := ⟨R_P, T_P, 6, "ContainerKit$Part", rfl, by decide, us_P, Or.inl q_381, Or.inl rfl⟩
theorem g_P_30_P : yy_G lw_tbl kcl R_P 30 2 1 := ⟨R_P, T_P, 6, "ContainerKit$Part", rfl, by decide, us_P, Or.inl q_211, Or.inr q_212⟩
theorem g_R_9_R : yy_G lw_tbl kcl R_R 9 3 2 := ⟨R_R, T_R, 4, "ContainerKit$Range", rfl, by decide, us_R, Or.inl q_348, Or.inl rfl⟩
theorem g_R_15_R : yy_G lw_tbl kcl R_R 15 3 3 := ⟨R_R, T_R, 4, "ContainerKit$Range", rfl, by decide, us_R, Or.inl q_350, Or.inl rfl⟩
theorem g_R_18_R : yy_G lw_tbl kcl R_R 18 3 1 := ⟨R_R, T_R, 4, "ContainerKit$Range", rfl, by decide, us_R, Or.inl q_206, Or.inr q_207⟩
theorem g_S_9_S : yy_G lw_tbl kcl R_S 9 0 1 := ⟨R_S, T_S, 6, "ContainerKit$Store", rfl, by decide, us_S, Or.inl q_176, Or.inl rfl⟩
theorem g_S_15_S : yy_G lw_tbl kcl R_S 15 0 2 := ⟨R_S, T_S, 6, "ContainerKit$Store", rfl, by decide, us_S, Or.inl q_177, Or.inl rfl⟩
theorem g_S_18_S : yy_G lw_tbl kcl R_S 18 0 3 := ⟨R_S, T_S, 6, "ContainerKit$Store", rfl, by decide, us_S, Or.inl q_178, Or.inl rfl⟩
theorem g_S_22_S : yy_G lw_tbl kcl R_S 22 0 4 := ⟨R_S, T_S, 6, "ContainerKit$Store", rfl, by decide, us_S, Or.inl q_180, Or.inl rfl⟩
theorem g_S_25_S : yy_G lw_tbl kcl R_S 25 0 5 := ⟨R_S, T_S, 6, "ContainerKit$Store", rfl, by decide, us_S, Or.inl q_183, Or.inl rfl⟩
theorem g_S_28_S : yy_G lw_tbl kcl R_S 28 0 0 := ⟨R_S, T_S, 6, "ContainerKit$Store", rfl, by decide, us_S, Or.inl q_175, Or.inl rfl⟩
theorem g_W_9_W : yy_G lw_tbl kcl R_W 9 4 0 := ⟨R_W, T_W, 4, "ContainerKit$Walk", rfl, by decide, us_W, Or.inl q_35, Or.inl rfl⟩
theorem g_W_15_W : yy_G lw_tbl kcl R_W 15 4 1 := ⟨R_W, T_W, 4, "ContainerKit$Walk", rfl, by decide, us_W, Or.inl q_37, Or.inl rfl⟩
theorem g_W_19_W : yy_G lw_tbl kcl R_W 19 4 2 := ⟨R_W, T_W, 4, "ContainerKit$Walk", rfl, by decide, us_W, Or.inl q_39, Or.inl rfl⟩
theorem g_W_22_W : yy_G lw_tbl kcl R_W 22 4 3 := ⟨R_W, T_W, 4, "ContainerKit$Walk", rfl, by decide, us_W, Or.inl q_41, Or.inl rfl⟩
theorem g_W_29_G : yy_G lw_tbl kcl R_W 29 1 1 := ⟨R_G, T_G, 2, "ContainerKit$Container", rfl, by decide, us_G, Or.inl q_210, Or.inl rfl⟩
theorem g_W_29_P : yy_G lw_tbl kcl R_W 29 2 1 := ⟨R_P, T_P, 6, "ContainerKit$Container", rfl, by decide, us_P, Or.inl q_210, Or.inl rfl⟩
theorem g_W_29_R : yy_G lw_tbl kcl R_W 29 3 1 := ⟨R_R, T_R, 4, "ContainerKit$Container", rfl, by decide, us_R, Or.inl q_210, Or.inl rfl⟩
theorem g_W_35_S : yy_G lw_tbl kcl R_W 35 0 5 := ⟨R_S, T_S, 6, "ContainerKit$Store", rfl, by decide, us_S, Or.inr ⟨_, q_184⟩, Or.inl rfl⟩
theorem g_G_12_G : yy_G lw_tbl kcl R_G 12 1 1 := ⟨R_G, T_G, 2, "ContainerKit$Whole", rfl, by decide, us_G, Or.inl q_208, Or.inr q_209⟩
theorem g_G_18_S : yy_G lw_tbl kcl R_G 18 0 3 := ⟨R_S, T_S, 6, "ContainerKit$Store", rfl, by decide, us_S, Or.inr ⟨_, q_179⟩, Or.inl rfl⟩
end
section
theorem d_S_init_0 : decode b_S_init 0 = .ok (.aload_n 0, 1) := by decide +kernel
theorem d_S_init_1 : decode b_S_init 1 = .ok (.invokespecial 3, 3) := by decide +kernel
theorem d_S_init_4 : decode b_S_init 4 = .ok (.aload_n 0, 1) := by decide +kernel
theorem d_S_init_5 : decode b_S_init 5 = .ok (.bipush 24, 2) := by decide +kernel
theorem d_S_init_7 : decode b_S_init 7 = .ok (.newarray .int, 2) := by decide +kernel
theorem d_S_init_9 : decode b_S_init 9 = .ok (.putfield 9, 3) := by decide +kernel
theorem d_S_init_12 : decode b_S_init 12 = .ok (.aload_n 0, 1) := by decide +kernel
theorem d_S_init_13 : decode b_S_init 13 = .ok (.bipush 24, 2) := by decide +kernel
theorem d_S_init_15 : decode b_S_init 15 = .ok (.newarray .int, 2) := by decide +kernel
theorem d_S_init_17 : decode b_S_init 17 = .ok (.putfield 15, 3) := by decide +kernel
theorem d_S_init_20 : decode b_S_init 20 = .ok (.aload_n 0, 1) := by decide +kernel
theorem d_S_init_21 : decode b_S_init 21 = .ok (.iconst 0, 1) := by decide +kernel
theorem d_S_init_22 : decode b_S_init 22 = .ok (.putfield 18, 3) := by decide +kernel
theorem d_S_init_25 : decode b_S_init 25 = .ok (.aload_n 0, 1) := by decide +kernel
theorem d_S_init_26 : decode b_S_init 26 = .ok (.iconst 4, 1) := by decide +kernel
theorem d_S_init_27 : decode b_S_init 27 = .ok (.putfield 22, 3) := by decide +kernel
theorem d_S_init_30 : decode b_S_init 30 = .ok (.aload_n 0, 1) := by decide +kernel
theorem d_S_init_31 : decode b_S_init 31 = .ok (.iconst 0, 1) := by decide +kernel
theorem d_S_init_32 : decode b_S_init 32 = .ok (.putfield 25, 3) := by decide +kernel
theorem d_S_init_35 : decode b_S_init 35 = .ok (.aload_n 0, 1) := by decide +kernel
theorem d_S_init_36 : decode b_S_init 36 = .ok (.iload_n 1, 1) := by decide +kernel
theorem d_S_init_37 : decode b_S_init 37 = .ok (.putfield 28, 3) := by decide +kernel
theorem d_S_init_40 : decode b_S_init 40 = .ok (.return_, 1) := by decide +kernel
theorem d_S_isFull_0 : decode b_S_isFull 0 = .ok (.aload_n 0, 1) := by decide +kernel
theorem d_S_isFull_1 : decode b_S_isFull 1 = .ok (.getfield 18, 3) := by decide +kernel
theorem d_S_isFull_4 : decode b_S_isFull 4 = .ok (.aload_n 0, 1) := by decide +kernel
theorem d_S_isFull_5 : decode b_S_isFull 5 = .ok (.getfield 9, 3) := by decide +kernel
theorem d_S_isFull_8 : decode b_S_isFull 8 = .ok (.arraylength, 1) := by decide +kernel
theorem d_S_isFull_9 : decode b_S_isFull 9 = .ok (.if_icmp .lt 7, 3) := by decide +kernel
theorem d_S_isFull_12 : decode b_S_isFull 12 = .ok (.iconst 1, 1) := by decide +kernel
theorem d_S_isFull_13 : decode b_S_isFull 13 = .ok (.goto 4, 3) := by decide +kernel
theorem d_S_isFull_16 : decode b_S_isFull 16 = .ok (.iconst 0, 1) := by decide +kernel
theorem d_S_isFull_17 : decode b_S_isFull 17 = .ok (.ireturn, 1) := by decide +kernel
theorem d_S_isHeld_0 : decode b_S_isHeld 0 = .ok (.iload_n 1, 1) := by decide +kernel
theorem d_S_isHeld_1 : decode b_S_isHeld 1 = .ok (.ifCond .lt 15, 3) := by decide +kernel
theorem d_S_isHeld_4 : decode b_S_isHeld 4 = .ok (.iload_n 1, 1) := by decide +kernel
theorem d_S_isHeld_5 : decode b_S_isHeld 5 = .ok (.aload_n 0, 1) := by decide +kernel
theorem d_S_isHeld_6 : decode b_S_isHeld 6 = .ok (.getfield 18, 3) := by decide +kernel
theorem d_S_isHeld_9 : decode b_S_isHeld 9 = .ok (.if_icmp .ge 7, 3) := by decide +kernel
theorem d_S_isHeld_12 : decode b_S_isHeld 12 = .ok (.iconst 1, 1) := by decide +kernel
theorem d_S_isHeld_13 : decode b_S_isHeld 13 = .ok (.goto 4, 3) := by decide +kernel
theorem d_S_isHeld_16 : decode b_S_isHeld 16 = .ok (.iconst 0, 1) := by decide +kernel
theorem d_S_isHeld_17 : decode b_S_isHeld 17 = .ok (.ireturn, 1) := by decide +kernel
theorem d_S_numberAt_0 : decode b_S_numberAt 0 = .ok (.aload_n 0, 1) := by decide +kernel
theorem d_S_numberAt_1 : decode b_S_numberAt 1 = .ok (.iload_n 1, 1) := by decide +kernel
theorem d_S_numberAt_2 : decode b_S_numberAt 2 = .ok (.invokevirtual 31, 3) := by decide +kernel
theorem d_S_numberAt_5 : decode b_S_numberAt 5 = .ok (.ifCond .eq 12, 3) := by decide +kernel
theorem d_S_numberAt_8 : decode b_S_numberAt 8 = .ok (.aload_n 0, 1) := by decide +kernel
theorem d_S_numberAt_9 : decode b_S_numberAt 9 = .ok (.getfield 9, 3) := by decide +kernel
theorem d_S_numberAt_12 : decode b_S_numberAt 12 = .ok (.iload_n 1, 1) := by decide +kernel
theorem d_S_numberAt_13 : decode b_S_numberAt 13 = .ok (.iaload, 1) := by decide +kernel
theorem d_S_numberAt_14 : decode b_S_numberAt 14 = .ok (.goto 4, 3) := by decide +kernel
theorem d_S_numberAt_17 : decode b_S_numberAt 17 = .ok (.iconst 0, 1) := by decide +kernel
theorem d_S_numberAt_18 : decode b_S_numberAt 18 = .ok (.ireturn, 1) := by decide +kernel
theorem d_S_valueAt_0 : decode b_S_valueAt 0 = .ok (.aload_n 0, 1) := by decide +kernel
theorem d_S_valueAt_1 : decode b_S_valueAt 1 = .ok (.iload_n 1, 1) := by decide +kernel
theorem d_S_valueAt_2 : decode b_S_valueAt 2 = .ok (.invokevirtual 31, 3) := by decide +kernel
theorem d_S_valueAt_5 : decode b_S_valueAt 5 = .ok (.ifCond .eq 12, 3) := by decide +kernel
theorem d_S_valueAt_8 : decode b_S_valueAt 8 = .ok (.aload_n 0, 1) := by decide +kernel
theorem d_S_valueAt_9 : decode b_S_valueAt 9 = .ok (.getfield 15, 3) := by decide +kernel
theorem d_S_valueAt_12 : decode b_S_valueAt 12 = .ok (.iload_n 1, 1) := by decide +kernel
theorem d_S_valueAt_13 : decode b_S_valueAt 13 = .ok (.iaload, 1) := by decide +kernel
theorem d_S_valueAt_14 : decode b_S_valueAt 14 = .ok (.goto 4, 3) := by decide +kernel
theorem d_S_valueAt_17 : decode b_S_valueAt 17 = .ok (.iconst 0, 1) := by decide +kernel
theorem d_S_valueAt_18 : decode b_S_valueAt 18 = .ok (.ireturn, 1) := by decide +kernel
theorem d_S_setNumber_0 : decode b_S_setNumber 0 = .ok (.aload_n 0, 1) := by decide +kernel
theorem d_S_setNumber_1 : decode b_S_setNumber 1 = .ok (.iload_n 1, 1) := by decide +kernel
theorem d_S_setNumber_2 : decode b_S_setNumber 2 = .ok (.invokevirtual 31, 3) := by decide +kernel
theorem d_S_setNumber_5 : decode b_S_setNumber 5 = .ok (.ifCond .eq 10, 3) := by decide +kernel
theorem d_S_setNumber_8 : decode b_S_setNumber 8 = .ok (.aload_n 0, 1) := by decide +kernel
theorem d_S_setNumber_9 : decode b_S_setNumber 9 = .ok (.getfield 9, 3) := by decide +kernel
theorem d_S_setNumber_12 : decode b_S_setNumber 12 = .ok (.iload_n 1, 1) := by decide +kernel
theorem d_S_setNumber_13 : decode b_S_setNumber 13 = .ok (.iload_n 2, 1) := by decide +kernel
theorem d_S_setNumber_14 : decode b_S_setNumber 14 = .ok (.iastore, 1) := by decide +kernel
theorem d_S_setNumber_15 : decode b_S_setNumber 15 = .ok (.return_, 1) := by decide +kernel
theorem d_S_setValue_0 : decode b_S_setValue 0 = .ok (.aload_n 0, 1) := by decide +kernel
theorem d_S_setValue_1 : decode b_S_setValue 1 = .ok (.iload_n 1, 1) := by decide +kernel
theorem d_S_setValue_2 : decode b_S_setValue 2 = .ok (.invokevirtual 31, 3) := by decide +kernel
theorem d_S_setValue_5 : decode b_S_setValue 5 = .ok (.ifCond .eq 10, 3) := by decide +kernel
theorem d_S_setValue_8 : decode b_S_setValue 8 = .ok (.aload_n 0, 1) := by decide +kernel
theorem d_S_setValue_9 : decode b_S_setValue 9 = .ok (.getfield 15, 3) := by decide +kernel
theorem d_S_setValue_12 : decode b_S_setValue 12 = .ok (.iload_n 1, 1) := by decide +kernel
theorem d_S_setValue_13 : decode b_S_setValue 13 = .ok (.iload_n 2, 1) := by decide +kernel
theorem d_S_setValue_14 : decode b_S_setValue 14 = .ok (.iastore, 1) := by decide +kernel
theorem d_S_setValue_15 : decode b_S_setValue 15 = .ok (.return_, 1) := by decide +kernel
theorem d_S_placeOf_0 : decode b_S_placeOf 0 = .ok (.iconst 0, 1) := by decide +kernel
theorem d_S_placeOf_1 : decode b_S_placeOf 1 = .ok (.istore_n 2, 1) := by decide +kernel
theorem d_S_placeOf_2 : decode b_S_placeOf 2 = .ok (.iload_n 2, 1) := by decide +kernel
theorem d_S_placeOf_3 : decode b_S_placeOf 3 = .ok (.aload_n 0, 1) := by decide +kernel
theorem d_S_placeOf_4 : decode b_S_placeOf 4 = .ok (.getfield 18, 3) := by decide +kernel
theorem d_S_placeOf_7 : decode b_S_placeOf 7 = .ok (.if_icmp .ge 21, 3) := by decide +kernel
theorem d_S_placeOf_10 : decode b_S_placeOf 10 = .ok (.aload_n 0, 1) := by decide +kernel
theorem d_S_placeOf_11 : decode b_S_placeOf 11 = .ok (.getfield 9, 3) := by decide +kernel
theorem d_S_placeOf_14 : decode b_S_placeOf 14 = .ok (.iload_n 2, 1) := by decide +kernel
theorem d_S_placeOf_15 : decode b_S_placeOf 15 = .ok (.iaload, 1) := by decide +kernel
theorem d_S_placeOf_16 : decode b_S_placeOf 16 = .ok (.iload_n 1, 1) := by decide +kernel
theorem d_S_placeOf_17 : decode b_S_placeOf 17 = .ok (.if_icmp .ne 5, 3) := by decide +kernel
theorem d_S_placeOf_20 : decode b_S_placeOf 20 = .ok (.iload_n 2, 1) := by decide +kernel
theorem d_S_placeOf_21 : decode b_S_placeOf 21 = .ok (.ireturn, 1) := by decide +kernel
theorem d_S_placeOf_22 : decode b_S_placeOf 22 = .ok (.iinc 2 1, 3) := by decide +kernel
theorem d_S_placeOf_25 : decode b_S_placeOf 25 = .ok (.goto (-23), 3) := by decide +kernel
theorem d_S_placeOf_28 : decode b_S_placeOf 28 = .ok (.iconst (-1), 1) := by decide +kernel
theorem d_S_placeOf_29 : decode b_S_placeOf 29 = .ok (.ireturn, 1) := by decide +kernel
theorem d_S_placesBefore_0 : decode b_S_placesBefore 0 = .ok (.iconst 0, 1) := by decide +kernel
theorem d_S_placesBefore_1 : decode b_S_placesBefore 1 = .ok (.istore_n 3, 1) := by decide +kernel
theorem d_S_placesBefore_2 : decode b_S_placesBefore 2 = .ok (.iconst 0, 1) := by decide +kernel
theorem d_S_placesBefore_3 : decode b_S_placesBefore 3 = .ok (.istore 4, 2) := by decide +kernel
theorem d_S_placesBefore_5 : decode b_S_placesBefore 5 = .ok (.iload 4, 2) := by decide +kernel
theorem d_S_placesBefore_7 : decode b_S_placesBefore 7 = .ok (.aload_n 0, 1) := by decide +kernel
theorem d_S_placesBefore_8 : decode b_S_placesBefore 8 = .ok (.getfield 18, 3) := by decide +kernel
theorem d_S_placesBefore_11 : decode b_S_placesBefore 11 = .ok (.if_icmp .ge 38, 3) := by decide +kernel
theorem d_S_placesBefore_14 : decode b_S_placesBefore 14 = .ok (.aload_n 0, 1) := by decide +kernel
theorem d_S_placesBefore_15 : decode b_S_placesBefore 15 = .ok (.getfield 9, 3) := by decide +kernel
theorem d_S_placesBefore_18 : decode b_S_placesBefore 18 = .ok (.iload 4, 2) := by decide +kernel
theorem d_S_placesBefore_20 : decode b_S_placesBefore 20 = .ok (.iaload, 1) := by decide +kernel
theorem d_S_placesBefore_21 : decode b_S_placesBefore 21 = .ok (.iload_n 1, 1) := by decide +kernel
theorem d_S_placesBefore_22 : decode b_S_placesBefore 22 = .ok (.if_icmp .lt 18, 3) := by decide +kernel
theorem d_S_placesBefore_25 : decode b_S_placesBefore 25 = .ok (.iload_n 2, 1) := by decide +kernel
theorem d_S_placesBefore_26 : decode b_S_placesBefore 26 = .ok (.ifCond .eq 17, 3) := by decide +kernel
theorem d_S_placesBefore_29 : decode b_S_placesBefore 29 = .ok (.aload_n 0, 1) := by decide +kernel
theorem d_S_placesBefore_30 : decode b_S_placesBefore 30 = .ok (.getfield 9, 3) := by decide +kernel
theorem d_S_placesBefore_33 : decode b_S_placesBefore 33 = .ok (.iload 4, 2) := by decide +kernel
theorem d_S_placesBefore_35 : decode b_S_placesBefore 35 = .ok (.iaload, 1) := by decide +kernel
theorem d_S_placesBefore_36 : decode b_S_placesBefore 36 = .ok (.iload_n 1, 1) := by decide +kernel
theorem d_S_placesBefore_37 : decode b_S_placesBefore 37 = .ok (.if_icmp .ne 6, 3) := by decide +kernel
theorem d_S_placesBefore_40 : decode b_S_placesBefore 40 = .ok (.iinc 3 1, 3) := by decide +kernel
theorem d_S_placesBefore_43 : decode b_S_placesBefore 43 = .ok (.iinc 4 1, 3) := by decide +kernel
theorem d_S_placesBefore_46 : decode b_S_placesBefore 46 = .ok (.goto (-41), 3) := by decide +kernel
theorem d_S_placesBefore_49 : decode b_S_placesBefore 49 = .ok (.iload_n 3, 1) := by decide +kernel
theorem d_S_placesBefore_50 : decode b_S_placesBefore 50 = .ok (.ireturn, 1) := by decide +kernel
theorem d_S_bringIn_0 : decode b_S_bringIn 0 = .ok (.aload_n 0, 1) := by decide +kernel
theorem d_S_bringIn_1 : decode b_S_bringIn 1 = .ok (.invokevirtual 35, 3) := by decide +kernel
theorem d_S_bringIn_4 : decode b_S_bringIn 4 = .ok (.ifCond .ne 15, 3) := by decide +kernel
theorem d_S_bringIn_7 : decode b_S_bringIn 7 = .ok (.iload_n 1, 1) := by decide +kernel
theorem d_S_bringIn_8 : decode b_S_bringIn 8 = .ok (.ifCond .lt 11, 3) := by decide +kernel
theorem d_S_bringIn_11 : decode b_S_bringIn 11 = .ok (.iload_n 1, 1) := by decide +kernel
theorem d_S_bringIn_12 : decode b_S_bringIn 12 = .ok (.aload_n 0, 1) := by decide +kernel
theorem d_S_bringIn_13 : decode b_S_bringIn 13 = .ok (.getfield 18, 3) := by decide +kernel
theorem d_S_bringIn_16 : decode b_S_bringIn 16 = .ok (.if_icmp .le 4, 3) := by decide +kernel
theorem d_S_bringIn_19 : decode b_S_bringIn 19 = .ok (.return_, 1) := by decide +kernel
theorem d_S_bringIn_20 : decode b_S_bringIn 20 = .ok (.aload_n 0, 1) := by decide +kernel
theorem d_S_bringIn_21 : decode b_S_bringIn 21 = .ok (.getfield 28, 3) := by decide +kernel
theorem d_S_bringIn_24 : decode b_S_bringIn 24 = .ok (.ifCond .ne 29, 3) := by decide +kernel
theorem d_S_bringIn_27 : decode b_S_bringIn 27 = .ok (.aload_n 0, 1) := by decide +kernel
theorem d_S_bringIn_28 : decode b_S_bringIn 28 = .ok (.getfield 18, 3) := by decide +kernel
theorem d_S_bringIn_31 : decode b_S_bringIn 31 = .ok (.aload_n 0, 1) := by decide +kernel
theorem d_S_bringIn_32 : decode b_S_bringIn 32 = .ok (.getfield 22, 3) := by decide +kernel
theorem d_S_bringIn_35 : decode b_S_bringIn 35 = .ok (.if_icmp .lt 18, 3) := by decide +kernel
theorem d_S_bringIn_38 : decode b_S_bringIn 38 = .ok (.aload_n 0, 1) := by decide +kernel
theorem d_S_bringIn_39 : decode b_S_bringIn 39 = .ok (.dup, 1) := by decide +kernel
theorem d_S_bringIn_40 : decode b_S_bringIn 40 = .ok (.getfield 22, 3) := by decide +kernel
theorem d_S_bringIn_43 : decode b_S_bringIn 43 = .ok (.aload_n 0, 1) := by decide +kernel
theorem d_S_bringIn_44 : decode b_S_bringIn 44 = .ok (.getfield 22, 3) := by decide +kernel
theorem d_S_bringIn_47 : decode b_S_bringIn 47 = .ok (.iconst 2, 1) := by decide +kernel
theorem d_S_bringIn_48 : decode b_S_bringIn 48 = .ok (.idiv, 1) := by decide +kernel
theorem d_S_bringIn_49 : decode b_S_bringIn 49 = .ok (.iadd, 1) := by decide +kernel
theorem d_S_bringIn_50 : decode b_S_bringIn 50 = .ok (.putfield 22, 3) := by decide +kernel
theorem d_S_bringIn_53 : decode b_S_bringIn 53 = .ok (.aload_n 0, 1) := by decide +kernel
theorem d_S_bringIn_54 : decode b_S_bringIn 54 = .ok (.getfield 18, 3) := by decide +kernel
theorem d_S_bringIn_57 : decode b_S_bringIn 57 = .ok (.istore 4, 2) := by decide +kernel
theorem d_S_bringIn_59 : decode b_S_bringIn 59 = .ok (.iload 4, 2) := by decide +kernel
theorem d_S_bringIn_61 : decode b_S_bringIn 61 = .ok (.iload_n 1, 1) := by decide +kernel
theorem d_S_bringIn_62 : decode b_S_bringIn 62 = .ok (.if_icmp .le 41, 3) := by decide +kernel
theorem d_S_bringIn_65 : decode b_S_bringIn 65 = .ok (.aload_n 0, 1) := by decide +kernel
theorem d_S_bringIn_66 : decode b_S_bringIn 66 = .ok (.getfield 9, 3) := by decide +kernel
theorem d_S_bringIn_69 : decode b_S_bringIn 69 = .ok (.iload 4, 2) := by decide +kernel
theorem d_S_bringIn_71 : decode b_S_bringIn 71 = .ok (.aload_n 0, 1) := by decide +kernel
theorem d_S_bringIn_72 : decode b_S_bringIn 72 = .ok (.getfield 9, 3) := by decide +kernel
theorem d_S_bringIn_75 : decode b_S_bringIn 75 = .ok (.iload 4, 2) := by decide +kernel
theorem d_S_bringIn_77 : decode b_S_bringIn 77 = .ok (.iconst 1, 1) := by decide +kernel
theorem d_S_bringIn_78 : decode b_S_bringIn 78 = .ok (.isub, 1) := by decide +kernel
theorem d_S_bringIn_79 : decode b_S_bringIn 79 = .ok (.iaload, 1) := by decide +kernel
theorem d_S_bringIn_80 : decode b_S_bringIn 80 = .ok (.iastore, 1) := by decide +kernel
theorem d_S_bringIn_81 : decode b_S_bringIn 81 = .ok (.aload_n 0, 1) := by decide +kernel
theorem d_S_bringIn_82 : decode b_S_bringIn 82 = .ok (.getfield 15, 3) := by decide +kernel
theorem d_S_bringIn_85 : decode b_S_bringIn 85 = .ok (.iload 4, 2) := by decide +kernel
theorem d_S_bringIn_87 : decode b_S_bringIn 87 = .ok (.aload_n 0, 1) := by decide +kernel
theorem d_S_bringIn_88 : decode b_S_bringIn 88 = .ok (.getfield 15, 3) := by decide +kernel
theorem d_S_bringIn_91 : decode b_S_bringIn 91 = .ok (.iload 4, 2) := by decide +kernel
theorem d_S_bringIn_93 : decode b_S_bringIn 93 = .ok (.iconst 1, 1) := by decide +kernel
theorem d_S_bringIn_94 : decode b_S_bringIn 94 = .ok (.isub, 1) := by decide +kernel
theorem d_S_bringIn_95 : decode b_S_bringIn 95 = .ok (.iaload, 1) := by decide +kernel
theorem d_S_bringIn_96 : decode b_S_bringIn 96 = .ok (.iastore, 1) := by decide +kernel
theorem d_S_bringIn_97 : decode b_S_bringIn 97 = .ok (.iinc 4 (-1), 3) := by decide +kernel
theorem d_S_bringIn_100 : decode b_S_bringIn 100 = .ok (.goto (-41), 3) := by decide +kernel
theorem d_S_bringIn_103 : decode b_S_bringIn 103 = .ok (.aload_n 0, 1) := by decide +kernel
theorem d_S_bringIn_104 : decode b_S_bringIn 104 = .ok (.getfield 9, 3) := by decide +kernel
theorem d_S_bringIn_107 : decode b_S_bringIn 107 = .ok (.iload_n 1, 1) := by decide +kernel
theorem d_S_bringIn_108 : decode b_S_bringIn 108 = .ok (.iload_n 2, 1) := by decide +kernel
theorem d_S_bringIn_109 : decode b_S_bringIn 109 = .ok (.iastore, 1) := by decide +kernel
theorem d_S_bringIn_110 : decode b_S_bringIn 110 = .ok (.aload_n 0, 1) := by decide +kernel
theorem d_S_bringIn_111 : decode b_S_bringIn 111 = .ok (.getfield 15, 3) := by decide +kernel
theorem d_S_bringIn_114 : decode b_S_bringIn 114 = .ok (.iload_n 1, 1) := by decide +kernel
theorem d_S_bringIn_115 : decode b_S_bringIn 115 = .ok (.iload_n 3, 1) := by decide +kernel
theorem d_S_bringIn_116 : decode b_S_bringIn 116 = .ok (.iastore, 1) := by decide +kernel
theorem d_S_bringIn_117 : decode b_S_bringIn 117 = .ok (.aload_n 0, 1) := by decide +kernel
theorem d_S_bringIn_118 : decode b_S_bringIn 118 = .ok (.dup, 1) := by decide +kernel
theorem d_S_bringIn_119 : decode b_S_bringIn 119 = .ok (.getfield 18, 3) := by decide +kernel
theorem d_S_bringIn_122 : decode b_S_bringIn 122 = .ok (.iconst 1, 1) := by decide +kernel
theorem d_S_bringIn_123 : decode b_S_bringIn 123 = .ok (.iadd, 1) := by decide +kernel
theorem d_S_bringIn_124 : decode b_S_bringIn 124 = .ok (.putfield 18, 3) := by decide +kernel
theorem d_S_bringIn_127 : decode b_S_bringIn 127 = .ok (.aload_n 0, 1) := by decide +kernel
theorem d_S_bringIn_128 : decode b_S_bringIn 128 = .ok (.dup, 1) := by decide +kernel
theorem d_S_bringIn_129 : decode b_S_bringIn 129 = .ok (.getfield 25, 3) := by decide +kernel
theorem d_S_bringIn_132 : decode b_S_bringIn 132 = .ok (.iconst 1, 1) := by decide +kernel
theorem d_S_bringIn_133 : decode b_S_bringIn 133 = .ok (.iadd, 1) := by decide +kernel
theorem d_S_bringIn_134 : decode b_S_bringIn 134 = .ok (.putfield 25, 3) := by decide +kernel
theorem d_S_bringIn_137 : decode b_S_bringIn 137 = .ok (.return_, 1) := by decide +kernel
theorem d_S_takeOut_0 : decode b_S_takeOut 0 = .ok (.aload_n 0, 1) := by decide +kernel
theorem d_S_takeOut_1 : decode b_S_takeOut 1 = .ok (.iload_n 1, 1) := by decide +kernel
theorem d_S_takeOut_2 : decode b_S_takeOut 2 = .ok (.invokevirtual 31, 3) := by decide +kernel
theorem d_S_takeOut_5 : decode b_S_takeOut 5 = .ok (.ifCond .eq 28, 3) := by decide +kernel
theorem d_S_takeOut_8 : decode b_S_takeOut 8 = .ok (.aload_n 0, 1) := by decide +kernel
theorem d_S_takeOut_9 : decode b_S_takeOut 9 = .ok (.iload_n 1, 1) := by decide +kernel
theorem d_S_takeOut_10 : decode b_S_takeOut 10 = .ok (.invokevirtual 39, 3) := by decide +kernel
theorem d_S_takeOut_13 : decode b_S_takeOut 13 = .ok (.aload_n 0, 1) := by decide +kernel
theorem d_S_takeOut_14 : decode b_S_takeOut 14 = .ok (.dup, 1) := by decide +kernel
theorem d_S_takeOut_15 : decode b_S_takeOut 15 = .ok (.getfield 18, 3) := by decide +kernel
theorem d_S_takeOut_18 : decode b_S_takeOut 18 = .ok (.iconst 1, 1) := by decide +kernel
theorem d_S_takeOut_19 : decode b_S_takeOut 19 = .ok (.isub, 1) := by decide +kernel
theorem d_S_takeOut_20 : decode b_S_takeOut 20 = .ok (.putfield 18, 3) := by decide +kernel
theorem d_S_takeOut_23 : decode b_S_takeOut 23 = .ok (.aload_n 0, 1) := by decide +kernel
theorem d_S_takeOut_24 : decode b_S_takeOut 24 = .ok (.dup, 1) := by decide +kernel
theorem d_S_takeOut_25 : decode b_S_takeOut 25 = .ok (.getfield 25, 3) := by decide +kernel
theorem d_S_takeOut_28 : decode b_S_takeOut 28 = .ok (.iconst 1, 1) := by decide +kernel
theorem d_S_takeOut_29 : decode b_S_takeOut 29 = .ok (.iadd, 1) := by decide +kernel
theorem d_S_takeOut_30 : decode b_S_takeOut 30 = .ok (.putfield 25, 3) := by decide +kernel
theorem d_S_takeOut_33 : decode b_S_takeOut 33 = .ok (.return_, 1) := by decide +kernel
theorem d_S_closeGap_0 : decode b_S_closeGap 0 = .ok (.iload_n 1, 1) := by decide +kernel
theorem d_S_closeGap_1 : decode b_S_closeGap 1 = .ok (.istore_n 2, 1) := by decide +kernel
theorem d_S_closeGap_2 : decode b_S_closeGap 2 = .ok (.iload_n 2, 1) := by decide +kernel
theorem d_S_closeGap_3 : decode b_S_closeGap 3 = .ok (.aload_n 0, 1) := by decide +kernel
theorem d_S_closeGap_4 : decode b_S_closeGap 4 = .ok (.getfield 18, 3) := by decide +kernel
theorem d_S_closeGap_7 : decode b_S_closeGap 7 = .ok (.iconst 1, 1) := by decide +kernel
theorem d_S_closeGap_8 : decode b_S_closeGap 8 = .ok (.isub, 1) := by decide +kernel
theorem d_S_closeGap_9 : decode b_S_closeGap 9 = .ok (.if_icmp .ge 37, 3) := by decide +kernel
theorem d_S_closeGap_12 : decode b_S_closeGap 12 = .ok (.aload_n 0, 1) := by decide +kernel
theorem d_S_closeGap_13 : decode b_S_closeGap 13 = .ok (.getfield 9, 3) := by decide +kernel
theorem d_S_closeGap_16 : decode b_S_closeGap 16 = .ok (.iload_n 2, 1) := by decide +kernel
theorem d_S_closeGap_17 : decode b_S_closeGap 17 = .ok (.aload_n 0, 1) := by decide +kernel
theorem d_S_closeGap_18 : decode b_S_closeGap 18 = .ok (.getfield 9, 3) := by decide +kernel
theorem d_S_closeGap_21 : decode b_S_closeGap 21 = .ok (.iload_n 2, 1) := by decide +kernel
theorem d_S_closeGap_22 : decode b_S_closeGap 22 = .ok (.iconst 1, 1) := by decide +kernel
theorem d_S_closeGap_23 : decode b_S_closeGap 23 = .ok (.iadd, 1) := by decide +kernel
theorem d_S_closeGap_24 : decode b_S_closeGap 24 = .ok (.iaload, 1) := by decide +kernel
theorem d_S_closeGap_25 : decode b_S_closeGap 25 = .ok (.iastore, 1) := by decide +kernel
theorem d_S_closeGap_26 : decode b_S_closeGap 26 = .ok (.aload_n 0, 1) := by decide +kernel
theorem d_S_closeGap_27 : decode b_S_closeGap 27 = .ok (.getfield 15, 3) := by decide +kernel
theorem d_S_closeGap_30 : decode b_S_closeGap 30 = .ok (.iload_n 2, 1) := by decide +kernel
theorem d_S_closeGap_31 : decode b_S_closeGap 31 = .ok (.aload_n 0, 1) := by decide +kernel
theorem d_S_closeGap_32 : decode b_S_closeGap 32 = .ok (.getfield 15, 3) := by decide +kernel
theorem d_S_closeGap_35 : decode b_S_closeGap 35 = .ok (.iload_n 2, 1) := by decide +kernel
theorem d_S_closeGap_36 : decode b_S_closeGap 36 = .ok (.iconst 1, 1) := by decide +kernel
theorem d_S_closeGap_37 : decode b_S_closeGap 37 = .ok (.iadd, 1) := by decide +kernel
theorem d_S_closeGap_38 : decode b_S_closeGap 38 = .ok (.iaload, 1) := by decide +kernel
theorem d_S_closeGap_39 : decode b_S_closeGap 39 = .ok (.iastore, 1) := by decide +kernel
theorem d_S_closeGap_40 : decode b_S_closeGap 40 = .ok (.iinc 2 1, 3) := by decide +kernel
theorem d_S_closeGap_43 : decode b_S_closeGap 43 = .ok (.goto (-41), 3) := by decide +kernel
theorem d_S_closeGap_46 : decode b_S_closeGap 46 = .ok (.return_, 1) := by decide +kernel
theorem d_S_putKey_0 : decode b_S_putKey 0 = .ok (.aload_n 0, 1) := by decide +kernel
theorem d_S_putKey_1 : decode b_S_putKey 1 = .ok (.iload_n 1, 1) := by decide +kernel
theorem d_S_putKey_2 : decode b_S_putKey 2 = .ok (.invokevirtual 43, 3) := by decide +kernel
theorem d_S_putKey_5 : decode b_S_putKey 5 = .ok (.istore_n 3, 1) := by decide +kernel
theorem d_S_putKey_6 : decode b_S_putKey 6 = .ok (.iload_n 3, 1) := by decide +kernel
theorem d_S_putKey_7 : decode b_S_putKey 7 = .ok (.iconst (-1), 1) := by decide +kernel
theorem d_S_putKey_8 : decode b_S_putKey 8 = .ok (.if_icmp .ne 12, 3) := by decide +kernel
theorem d_S_putKey_11 : decode b_S_putKey 11 = .ok (.aload_n 0, 1) := by decide +kernel
theorem d_S_putKey_12 : decode b_S_putKey 12 = .ok (.iload_n 1, 1) := by decide +kernel
theorem d_S_putKey_13 : decode b_S_putKey 13 = .ok (.iload_n 2, 1) := by decide +kernel
theorem d_S_putKey_14 : decode b_S_putKey 14 = .ok (.invokevirtual 47, 3) := by decide +kernel
theorem d_S_putKey_17 : decode b_S_putKey 17 = .ok (.goto 14, 3) := by decide +kernel
theorem d_S_putKey_20 : decode b_S_putKey 20 = .ok (.aload_n 0, 1) := by decide +kernel
theorem d_S_putKey_21 : decode b_S_putKey 21 = .ok (.iload_n 3, 1) := by decide +kernel
theorem d_S_putKey_22 : decode b_S_putKey 22 = .ok (.iload_n 2, 1) := by decide +kernel
theorem d_S_putKey_23 : decode b_S_putKey 23 = .ok (.invokevirtual 51, 3) := by decide +kernel
theorem d_S_putKey_26 : decode b_S_putKey 26 = .ok (.aload_n 0, 1) := by decide +kernel
theorem d_S_putKey_27 : decode b_S_putKey 27 = .ok (.iload_n 1, 1) := by decide +kernel
theorem d_S_putKey_28 : decode b_S_putKey 28 = .ok (.invokevirtual 54, 3) := by decide +kernel
theorem d_S_putKey_31 : decode b_S_putKey 31 = .ok (.return_, 1) := by decide +kernel
theorem d_S_bringKeyIn_0 : decode b_S_bringKeyIn 0 = .ok (.aload_n 0, 1) := by decide +kernel
theorem d_S_bringKeyIn_1 : decode b_S_bringKeyIn 1 = .ok (.aload_n 0, 1) := by decide +kernel
theorem d_S_bringKeyIn_2 : decode b_S_bringKeyIn 2 = .ok (.getfield 28, 3) := by decide +kernel
theorem d_S_bringKeyIn_5 : decode b_S_bringKeyIn 5 = .ok (.iconst 4, 1) := by decide +kernel
theorem d_S_bringKeyIn_6 : decode b_S_bringKeyIn 6 = .ok (.if_icmp .ne 12, 3) := by decide +kernel
theorem d_S_bringKeyIn_9 : decode b_S_bringKeyIn 9 = .ok (.aload_n 0, 1) := by decide +kernel
theorem d_S_bringKeyIn_10 : decode b_S_bringKeyIn 10 = .ok (.iload_n 1, 1) := by decide +kernel
theorem d_S_bringKeyIn_11 : decode b_S_bringKeyIn 11 = .ok (.iconst 0, 1) := by decide +kernel
theorem d_S_bringKeyIn_12 : decode b_S_bringKeyIn 12 = .ok (.invokevirtual 57, 3) := by decide +kernel
theorem d_S_bringKeyIn_15 : decode b_S_bringKeyIn 15 = .ok (.goto 7, 3) := by decide +kernel
theorem d_S_bringKeyIn_18 : decode b_S_bringKeyIn 18 = .ok (.aload_n 0, 1) := by decide +kernel
theorem d_S_bringKeyIn_19 : decode b_S_bringKeyIn 19 = .ok (.getfield 18, 3) := by decide +kernel
theorem d_S_bringKeyIn_22 : decode b_S_bringKeyIn 22 = .ok (.iload_n 1, 1) := by decide +kernel
theorem d_S_bringKeyIn_23 : decode b_S_bringKeyIn 23 = .ok (.iload_n 2, 1) := by decide +kernel
theorem d_S_bringKeyIn_24 : decode b_S_bringKeyIn 24 = .ok (.invokevirtual 61, 3) := by decide +kernel
theorem d_S_bringKeyIn_27 : decode b_S_bringKeyIn 27 = .ok (.aload_n 0, 1) := by decide +kernel
theorem d_S_bringKeyIn_28 : decode b_S_bringKeyIn 28 = .ok (.getfield 28, 3) := by decide +kernel
theorem d_S_bringKeyIn_31 : decode b_S_bringKeyIn 31 = .ok (.iconst 2, 1) := by decide +kernel
theorem d_S_bringKeyIn_32 : decode b_S_bringKeyIn 32 = .ok (.if_icmp .eq 11, 3) := by decide +kernel
theorem d_S_bringKeyIn_35 : decode b_S_bringKeyIn 35 = .ok (.aload_n 0, 1) := by decide +kernel
theorem d_S_bringKeyIn_36 : decode b_S_bringKeyIn 36 = .ok (.getfield 28, 3) := by decide +kernel
theorem d_S_bringKeyIn_39 : decode b_S_bringKeyIn 39 = .ok (.iconst 3, 1) := by decide +kernel
theorem d_S_bringKeyIn_40 : decode b_S_bringKeyIn 40 = .ok (.if_icmp .ne 28, 3) := by decide +kernel
theorem d_S_bringKeyIn_43 : decode b_S_bringKeyIn 43 = .ok (.aload_n 0, 1) := by decide +kernel
theorem d_S_bringKeyIn_44 : decode b_S_bringKeyIn 44 = .ok (.getfield 18, 3) := by decide +kernel
theorem d_S_bringKeyIn_47 : decode b_S_bringKeyIn 47 = .ok (.iconst 4, 1) := by decide +kernel
theorem d_S_bringKeyIn_48 : decode b_S_bringKeyIn 48 = .ok (.imul, 1) := by decide +kernel
theorem d_S_bringKeyIn_49 : decode b_S_bringKeyIn 49 = .ok (.aload_n 0, 1) := by decide +kernel
theorem d_S_bringKeyIn_50 : decode b_S_bringKeyIn 50 = .ok (.getfield 22, 3) := by decide +kernel
theorem d_S_bringKeyIn_53 : decode b_S_bringKeyIn 53 = .ok (.iconst 3, 1) := by decide +kernel
theorem d_S_bringKeyIn_54 : decode b_S_bringKeyIn 54 = .ok (.imul, 1) := by decide +kernel
theorem d_S_bringKeyIn_55 : decode b_S_bringKeyIn 55 = .ok (.if_icmp .le 13, 3) := by decide +kernel
theorem d_S_bringKeyIn_58 : decode b_S_bringKeyIn 58 = .ok (.aload_n 0, 1) := by decide +kernel
theorem d_S_bringKeyIn_59 : decode b_S_bringKeyIn 59 = .ok (.dup, 1) := by decide +kernel
theorem d_S_bringKeyIn_60 : decode b_S_bringKeyIn 60 = .ok (.getfield 22, 3) := by decide +kernel
theorem d_S_bringKeyIn_63 : decode b_S_bringKeyIn 63 = .ok (.iconst 2, 1) := by decide +kernel
theorem d_S_bringKeyIn_64 : decode b_S_bringKeyIn 64 = .ok (.imul, 1) := by decide +kernel
theorem d_S_bringKeyIn_65 : decode b_S_bringKeyIn 65 = .ok (.putfield 22, 3) := by decide +kernel
theorem d_S_bringKeyIn_68 : decode b_S_bringKeyIn 68 = .ok (.aload_n 0, 1) := by decide +kernel
theorem d_S_bringKeyIn_69 : decode b_S_bringKeyIn 69 = .ok (.getfield 28, 3) := by decide +kernel
theorem d_S_bringKeyIn_72 : decode b_S_bringKeyIn 72 = .ok (.iconst 3, 1) := by decide +kernel
theorem d_S_bringKeyIn_73 : decode b_S_bringKeyIn 73 = .ok (.if_icmp .ne 17, 3) := by decide +kernel
theorem d_S_bringKeyIn_76 : decode b_S_bringKeyIn 76 = .ok (.aload_n 0, 1) := by decide +kernel
theorem d_S_bringKeyIn_77 : decode b_S_bringKeyIn 77 = .ok (.getfield 18, 3) := by decide +kernel
theorem d_S_bringKeyIn_80 : decode b_S_bringKeyIn 80 = .ok (.bipush 7, 2) := by decide +kernel
theorem d_S_bringKeyIn_82 : decode b_S_bringKeyIn 82 = .ok (.if_icmp .lt 8, 3) := by decide +kernel
theorem d_S_bringKeyIn_85 : decode b_S_bringKeyIn 85 = .ok (.aload_n 0, 1) := by decide +kernel
theorem d_S_bringKeyIn_86 : decode b_S_bringKeyIn 86 = .ok (.iconst 0, 1) := by decide +kernel
theorem d_S_bringKeyIn_87 : decode b_S_bringKeyIn 87 = .ok (.invokevirtual 65, 3) := by decide +kernel
theorem d_S_bringKeyIn_90 : decode b_S_bringKeyIn 90 = .ok (.return_, 1) := by decide +kernel
theorem d_S_noteUse_0 : decode b_S_noteUse 0 = .ok (.aload_n 0, 1) := by decide +kernel
theorem d_S_noteUse_1 : decode b_S_noteUse 1 = .ok (.iload_n 1, 1) := by decide +kernel
theorem d_S_noteUse_2 : decode b_S_noteUse 2 = .ok (.invokevirtual 43, 3) := by decide +kernel
theorem d_S_noteUse_5 : decode b_S_noteUse 5 = .ok (.istore_n 2, 1) := by decide +kernel
theorem d_S_noteUse_6 : decode b_S_noteUse 6 = .ok (.aload_n 0, 1) := by decide +kernel
theorem d_S_noteUse_7 : decode b_S_noteUse 7 = .ok (.getfield 28, 3) := by decide +kernel
theorem d_S_noteUse_10 : decode b_S_noteUse 10 = .ok (.iconst 3, 1) := by decide +kernel
theorem d_S_noteUse_11 : decode b_S_noteUse 11 = .ok (.if_icmp .ne 18, 3) := by decide +kernel
theorem d_S_noteUse_14 : decode b_S_noteUse 14 = .ok (.iload_n 2, 1) := by decide +kernel
theorem d_S_noteUse_15 : decode b_S_noteUse 15 = .ok (.iconst (-1), 1) := by decide +kernel
theorem d_S_noteUse_16 : decode b_S_noteUse 16 = .ok (.if_icmp .eq 13, 3) := by decide +kernel
theorem d_S_noteUse_19 : decode b_S_noteUse 19 = .ok (.iload_n 2, 1) := by decide +kernel
theorem d_S_noteUse_20 : decode b_S_noteUse 20 = .ok (.aload_n 0, 1) := by decide +kernel
theorem d_S_noteUse_21 : decode b_S_noteUse 21 = .ok (.getfield 18, 3) := by decide +kernel
theorem d_S_noteUse_24 : decode b_S_noteUse 24 = .ok (.iconst 1, 1) := by decide +kernel
theorem d_S_noteUse_25 : decode b_S_noteUse 25 = .ok (.isub, 1) := by decide +kernel
theorem d_S_noteUse_26 : decode b_S_noteUse 26 = .ok (.if_icmp .ne 4, 3) := by decide +kernel
theorem d_S_noteUse_29 : decode b_S_noteUse 29 = .ok (.return_, 1) := by decide +kernel
theorem d_S_noteUse_30 : decode b_S_noteUse 30 = .ok (.aload_n 0, 1) := by decide +kernel
theorem d_S_noteUse_31 : decode b_S_noteUse 31 = .ok (.getfield 15, 3) := by decide +kernel
theorem d_S_noteUse_34 : decode b_S_noteUse 34 = .ok (.iload_n 2, 1) := by decide +kernel
theorem d_S_noteUse_35 : decode b_S_noteUse 35 = .ok (.iaload, 1) := by decide +kernel
theorem d_S_noteUse_36 : decode b_S_noteUse 36 = .ok (.istore_n 3, 1) := by decide +kernel
theorem d_S_noteUse_37 : decode b_S_noteUse 37 = .ok (.aload_n 0, 1) := by decide +kernel
theorem d_S_noteUse_38 : decode b_S_noteUse 38 = .ok (.iload_n 2, 1) := by decide +kernel
theorem d_S_noteUse_39 : decode b_S_noteUse 39 = .ok (.invokevirtual 39, 3) := by decide +kernel
theorem d_S_noteUse_42 : decode b_S_noteUse 42 = .ok (.aload_n 0, 1) := by decide +kernel
theorem d_S_noteUse_43 : decode b_S_noteUse 43 = .ok (.getfield 9, 3) := by decide +kernel
theorem d_S_noteUse_46 : decode b_S_noteUse 46 = .ok (.aload_n 0, 1) := by decide +kernel
theorem d_S_noteUse_47 : decode b_S_noteUse 47 = .ok (.getfield 18, 3) := by decide +kernel
theorem d_S_noteUse_50 : decode b_S_noteUse 50 = .ok (.iconst 1, 1) := by decide +kernel
theorem d_S_noteUse_51 : decode b_S_noteUse 51 = .ok (.isub, 1) := by decide +kernel
theorem d_S_noteUse_52 : decode b_S_noteUse 52 = .ok (.iload_n 1, 1) := by decide +kernel
theorem d_S_noteUse_53 : decode b_S_noteUse 53 = .ok (.iastore, 1) := by decide +kernel
theorem d_S_noteUse_54 : decode b_S_noteUse 54 = .ok (.aload_n 0, 1) := by decide +kernel
theorem d_S_noteUse_55 : decode b_S_noteUse 55 = .ok (.getfield 15, 3) := by decide +kernel
theorem d_S_noteUse_58 : decode b_S_noteUse 58 = .ok (.aload_n 0, 1) := by decide +kernel
theorem d_S_noteUse_59 : decode b_S_noteUse 59 = .ok (.getfield 18, 3) := by decide +kernel
theorem d_S_noteUse_62 : decode b_S_noteUse 62 = .ok (.iconst 1, 1) := by decide +kernel
theorem d_S_noteUse_63 : decode b_S_noteUse 63 = .ok (.isub, 1) := by decide +kernel
theorem d_S_noteUse_64 : decode b_S_noteUse 64 = .ok (.iload_n 3, 1) := by decide +kernel
theorem d_S_noteUse_65 : decode b_S_noteUse 65 = .ok (.iastore, 1) := by decide +kernel
theorem d_S_noteUse_66 : decode b_S_noteUse 66 = .ok (.aload_n 0, 1) := by decide +kernel
theorem d_S_noteUse_67 : decode b_S_noteUse 67 = .ok (.dup, 1) := by decide +kernel
theorem d_S_noteUse_68 : decode b_S_noteUse 68 = .ok (.getfield 25, 3) := by decide +kernel
theorem d_S_noteUse_71 : decode b_S_noteUse 71 = .ok (.iconst 1, 1) := by decide +kernel
theorem d_S_noteUse_72 : decode b_S_noteUse 72 = .ok (.iadd, 1) := by decide +kernel
theorem d_S_noteUse_73 : decode b_S_noteUse 73 = .ok (.putfield 25, 3) := by decide +kernel
theorem d_S_noteUse_76 : decode b_S_noteUse 76 = .ok (.return_, 1) := by decide +kernel
theorem d_S_countInBucketOf_0 : decode b_S_countInBucketOf 0 = .ok (.iconst 0, 1) := by decide +kernel
theorem d_S_countInBucketOf_1 : decode b_S_countInBucketOf 1 = .ok (.istore_n 2, 1) := by decide +kernel
theorem d_S_countInBucketOf_2 : decode b_S_countInBucketOf 2 = .ok (.iconst 0, 1) := by decide +kernel
theorem d_S_countInBucketOf_3 : decode b_S_countInBucketOf 3 = .ok (.istore_n 3, 1) := by decide +kernel
theorem d_S_countInBucketOf_4 : decode b_S_countInBucketOf 4 = .ok (.iload_n 3, 1) := by decide +kernel
theorem d_S_countInBucketOf_5 : decode b_S_countInBucketOf 5 = .ok (.aload_n 0, 1) := by decide +kernel
theorem d_S_countInBucketOf_6 : decode b_S_countInBucketOf 6 = .ok (.getfield 18, 3) := by decide +kernel
theorem d_S_countInBucketOf_9 : decode b_S_countInBucketOf 9 = .ok (.if_icmp .ge 30, 3) := by decide +kernel
theorem d_S_countInBucketOf_12 : decode b_S_countInBucketOf 12 = .ok (.aload_n 0, 1) := by decide +kernel
theorem d_S_countInBucketOf_13 : decode b_S_countInBucketOf 13 = .ok (.aload_n 0, 1) := by decide +kernel
theorem d_S_countInBucketOf_14 : decode b_S_countInBucketOf 14 = .ok (.getfield 9, 3) := by decide +kernel
theorem d_S_countInBucketOf_17 : decode b_S_countInBucketOf 17 = .ok (.iload_n 3, 1) := by decide +kernel
theorem d_S_countInBucketOf_18 : decode b_S_countInBucketOf 18 = .ok (.iaload, 1) := by decide +kernel
theorem d_S_countInBucketOf_19 : decode b_S_countInBucketOf 19 = .ok (.invokevirtual 68, 3) := by decide +kernel
theorem d_S_countInBucketOf_22 : decode b_S_countInBucketOf 22 = .ok (.aload_n 0, 1) := by decide +kernel
theorem d_S_countInBucketOf_23 : decode b_S_countInBucketOf 23 = .ok (.iload_n 1, 1) := by decide +kernel
theorem d_S_countInBucketOf_24 : decode b_S_countInBucketOf 24 = .ok (.invokevirtual 68, 3) := by decide +kernel
theorem d_S_countInBucketOf_27 : decode b_S_countInBucketOf 27 = .ok (.if_icmp .ne 6, 3) := by decide +kernel
theorem d_S_countInBucketOf_30 : decode b_S_countInBucketOf 30 = .ok (.iinc 2 1, 3) := by decide +kernel
theorem d_S_countInBucketOf_33 : decode b_S_countInBucketOf 33 = .ok (.iinc 3 1, 3) := by decide +kernel
theorem d_S_countInBucketOf_36 : decode b_S_countInBucketOf 36 = .ok (.goto (-32), 3) := by decide +kernel
theorem d_S_countInBucketOf_39 : decode b_S_countInBucketOf 39 = .ok (.iload_n 2, 1) := by decide +kernel
theorem d_S_countInBucketOf_40 : decode b_S_countInBucketOf 40 = .ok (.ireturn, 1) := by decide +kernel
theorem d_S_bucketOf_0 : decode b_S_bucketOf 0 = .ok (.iload_n 1, 1) := by decide +kernel
theorem d_S_bucketOf_1 : decode b_S_bucketOf 1 = .ok (.iload_n 1, 1) := by decide +kernel
theorem d_S_bucketOf_2 : decode b_S_bucketOf 2 = .ok (.bipush 16, 2) := by decide +kernel
theorem d_S_bucketOf_4 : decode b_S_bucketOf 4 = .ok (.iushr, 1) := by decide +kernel
theorem d_S_bucketOf_5 : decode b_S_bucketOf 5 = .ok (.ixor, 1) := by decide +kernel
theorem d_S_bucketOf_6 : decode b_S_bucketOf 6 = .ok (.aload_n 0, 1) := by decide +kernel
theorem d_S_bucketOf_7 : decode b_S_bucketOf 7 = .ok (.getfield 22, 3) := by decide +kernel
theorem d_S_bucketOf_10 : decode b_S_bucketOf 10 = .ok (.iconst 1, 1) := by decide +kernel
theorem d_S_bucketOf_11 : decode b_S_bucketOf 11 = .ok (.isub, 1) := by decide +kernel
theorem d_S_bucketOf_12 : decode b_S_bucketOf 12 = .ok (.iand, 1) := by decide +kernel
theorem d_S_bucketOf_13 : decode b_S_bucketOf 13 = .ok (.ireturn, 1) := by decide +kernel
theorem d_S_arrange_0 : decode b_S_arrange 0 = .ok (.iload_n 1, 1) := by decide +kernel
theorem d_S_arrange_1 : decode b_S_arrange 1 = .ok (.iconst 1, 1) := by decide +kernel
theorem d_S_arrange_2 : decode b_S_arrange 2 = .ok (.iadd, 1) := by decide +kernel
theorem d_S_arrange_3 : decode b_S_arrange 3 = .ok (.istore 4, 2) := by decide +kernel
theorem d_S_arrange_5 : decode b_S_arrange 5 = .ok (.iload 4, 2) := by decide +kernel
theorem d_S_arrange_7 : decode b_S_arrange 7 = .ok (.iload_n 2, 1) := by decide +kernel
theorem d_S_arrange_8 : decode b_S_arrange 8 = .ok (.if_icmp .ge 72, 3) := by decide +kernel
theorem d_S_arrange_11 : decode b_S_arrange 11 = .ok (.aload_n 0, 1) := by decide +kernel
theorem d_S_arrange_12 : decode b_S_arrange 12 = .ok (.iload 4, 2) := by decide +kernel
theorem d_S_arrange_14 : decode b_S_arrange 14 = .ok (.invokevirtual 71, 3) := by decide +kernel
theorem d_S_arrange_17 : decode b_S_arrange 17 = .ok (.istore 5, 2) := by decide +kernel
theorem d_S_arrange_19 : decode b_S_arrange 19 = .ok (.iload 4, 2) := by decide +kernel
theorem d_S_arrange_21 : decode b_S_arrange 21 = .ok (.istore 6, 2) := by decide +kernel
theorem d_S_arrange_23 : decode b_S_arrange 23 = .ok (.iload 6, 2) := by decide +kernel
theorem d_S_arrange_25 : decode b_S_arrange 25 = .ok (.iload_n 1, 1) := by decide +kernel
theorem d_S_arrange_26 : decode b_S_arrange 26 = .ok (.if_icmp .le 40, 3) := by decide +kernel
theorem d_S_arrange_29 : decode b_S_arrange 29 = .ok (.iload 5, 2) := by decide +kernel
theorem d_S_arrange_31 : decode b_S_arrange 31 = .ok (.aload_n 0, 1) := by decide +kernel
theorem d_S_arrange_32 : decode b_S_arrange 32 = .ok (.iload 6, 2) := by decide +kernel
theorem d_S_arrange_34 : decode b_S_arrange 34 = .ok (.iconst 1, 1) := by decide +kernel
theorem d_S_arrange_35 : decode b_S_arrange 35 = .ok (.isub, 1) := by decide +kernel
theorem d_S_arrange_36 : decode b_S_arrange 36 = .ok (.invokevirtual 71, 3) := by decide +kernel
theorem d_S_arrange_39 : decode b_S_arrange 39 = .ok (.iload_n 3, 1) := by decide +kernel
theorem d_S_arrange_40 : decode b_S_arrange 40 = .ok (.invokestatic 74, 3) := by decide +kernel
theorem d_S_arrange_43 : decode b_S_arrange 43 = .ok (.ifCond .eq 23, 3) := by decide +kernel
theorem d_S_arrange_46 : decode b_S_arrange 46 = .ok (.aload_n 0, 1) := by decide +kernel
theorem d_S_arrange_47 : decode b_S_arrange 47 = .ok (.iload 6, 2) := by decide +kernel
theorem d_S_arrange_49 : decode b_S_arrange 49 = .ok (.aload_n 0, 1) := by decide +kernel
theorem d_S_arrange_50 : decode b_S_arrange 50 = .ok (.iload 6, 2) := by decide +kernel
theorem d_S_arrange_52 : decode b_S_arrange 52 = .ok (.iconst 1, 1) := by decide +kernel
theorem d_S_arrange_53 : decode b_S_arrange 53 = .ok (.isub, 1) := by decide +kernel
theorem d_S_arrange_54 : decode b_S_arrange 54 = .ok (.invokevirtual 71, 3) := by decide +kernel
theorem d_S_arrange_57 : decode b_S_arrange 57 = .ok (.invokevirtual 78, 3) := by decide +kernel
theorem d_S_arrange_60 : decode b_S_arrange 60 = .ok (.iinc 6 (-1), 3) := by decide +kernel
theorem d_S_arrange_63 : decode b_S_arrange 63 = .ok (.goto (-40), 3) := by decide +kernel
theorem d_S_arrange_66 : decode b_S_arrange 66 = .ok (.aload_n 0, 1) := by decide +kernel
theorem d_S_arrange_67 : decode b_S_arrange 67 = .ok (.iload 6, 2) := by decide +kernel
theorem d_S_arrange_69 : decode b_S_arrange 69 = .ok (.iload 5, 2) := by decide +kernel
theorem d_S_arrange_71 : decode b_S_arrange 71 = .ok (.invokevirtual 78, 3) := by decide +kernel
theorem d_S_arrange_74 : decode b_S_arrange 74 = .ok (.iinc 4 1, 3) := by decide +kernel
theorem d_S_arrange_77 : decode b_S_arrange 77 = .ok (.goto (-72), 3) := by decide +kernel
theorem d_S_arrange_80 : decode b_S_arrange 80 = .ok (.aload_n 0, 1) := by decide +kernel
theorem d_S_arrange_81 : decode b_S_arrange 81 = .ok (.dup, 1) := by decide +kernel
theorem d_S_arrange_82 : decode b_S_arrange 82 = .ok (.getfield 25, 3) := by decide +kernel
theorem d_S_arrange_85 : decode b_S_arrange 85 = .ok (.iconst 1, 1) := by decide +kernel
theorem d_S_arrange_86 : decode b_S_arrange 86 = .ok (.iadd, 1) := by decide +kernel
theorem d_S_arrange_87 : decode b_S_arrange 87 = .ok (.putfield 25, 3) := by decide +kernel
theorem d_S_arrange_90 : decode b_S_arrange 90 = .ok (.return_, 1) := by decide +kernel
theorem d_S_comesBefore_0 : decode b_S_comesBefore 0 = .ok (.iload_n 2, 1) := by decide +kernel
theorem d_S_comesBefore_1 : decode b_S_comesBefore 1 = .ok (.ifCond .ne 14, 3) := by decide +kernel
theorem d_S_comesBefore_4 : decode b_S_comesBefore 4 = .ok (.iload_n 0, 1) := by decide +kernel
theorem d_S_comesBefore_5 : decode b_S_comesBefore 5 = .ok (.iload_n 1, 1) := by decide +kernel
theorem d_S_comesBefore_6 : decode b_S_comesBefore 6 = .ok (.if_icmp .ge 7, 3) := by decide +kernel
theorem d_S_comesBefore_9 : decode b_S_comesBefore 9 = .ok (.iconst 1, 1) := by decide +kernel
theorem d_S_comesBefore_10 : decode b_S_comesBefore 10 = .ok (.goto 4, 3) := by decide +kernel
theorem d_S_comesBefore_13 : decode b_S_comesBefore 13 = .ok (.iconst 0, 1) := by decide +kernel
theorem d_S_comesBefore_14 : decode b_S_comesBefore 14 = .ok (.ireturn, 1) := by decide +kernel
theorem d_S_comesBefore_15 : decode b_S_comesBefore 15 = .ok (.iload_n 2, 1) := by decide +kernel
theorem d_S_comesBefore_16 : decode b_S_comesBefore 16 = .ok (.iconst 1, 1) := by decide +kernel
theorem d_S_comesBefore_17 : decode b_S_comesBefore 17 = .ok (.if_icmp .ne 14, 3) := by decide +kernel
theorem d_S_comesBefore_20 : decode b_S_comesBefore 20 = .ok (.iload_n 0, 1) := by decide +kernel
theorem d_S_comesBefore_21 : decode b_S_comesBefore 21 = .ok (.iload_n 1, 1) := by decide +kernel
theorem d_S_comesBefore_22 : decode b_S_comesBefore 22 = .ok (.if_icmp .le 7, 3) := by decide +kernel
theorem d_S_comesBefore_25 : decode b_S_comesBefore 25 = .ok (.iconst 1, 1) := by decide +kernel
theorem d_S_comesBefore_26 : decode b_S_comesBefore 26 = .ok (.goto 4, 3) := by decide +kernel
theorem d_S_comesBefore_29 : decode b_S_comesBefore 29 = .ok (.iconst 0, 1) := by decide +kernel
theorem d_S_comesBefore_30 : decode b_S_comesBefore 30 = .ok (.ireturn, 1) := by decide +kernel
theorem d_S_comesBefore_31 : decode b_S_comesBefore 31 = .ok (.iload_n 0, 1) := by decide +kernel
theorem d_S_comesBefore_32 : decode b_S_comesBefore 32 = .ok (.bipush 10, 2) := by decide +kernel
theorem d_S_comesBefore_34 : decode b_S_comesBefore 34 = .ok (.invokestatic 81, 3) := by decide +kernel
theorem d_S_comesBefore_37 : decode b_S_comesBefore 37 = .ok (.iload_n 1, 1) := by decide +kernel
theorem d_S_comesBefore_38 : decode b_S_comesBefore 38 = .ok (.bipush 10, 2) := by decide +kernel
theorem d_S_comesBefore_40 : decode b_S_comesBefore 40 = .ok (.invokestatic 81, 3) := by decide +kernel
theorem d_S_comesBefore_43 : decode b_S_comesBefore 43 = .ok (.if_icmp .ge 7, 3) := by decide +kernel
theorem d_S_comesBefore_46 : decode b_S_comesBefore 46 = .ok (.iconst 1, 1) := by decide +kernel
theorem d_S_comesBefore_47 : decode b_S_comesBefore 47 = .ok (.goto 4, 3) := by decide +kernel
theorem d_S_comesBefore_50 : decode b_S_comesBefore 50 = .ok (.iconst 0, 1) := by decide +kernel
theorem d_S_comesBefore_51 : decode b_S_comesBefore 51 = .ok (.ireturn, 1) := by decide +kernel
theorem d_X_max_0 : decode b_X_max 0 = .ok (.iload_n 0, 1) := by decide +kernel
theorem d_X_max_1 : decode b_X_max 1 = .ok (.iload_n 1, 1) := by decide +kernel
theorem d_X_max_2 : decode b_X_max 2 = .ok (.if_icmp .lt 7, 3) := by decide +kernel
theorem d_X_max_5 : decode b_X_max 5 = .ok (.iload_n 0, 1) := by decide +kernel
theorem d_X_max_6 : decode b_X_max 6 = .ok (.goto 4, 3) := by decide +kernel
theorem d_X_max_9 : decode b_X_max 9 = .ok (.iload_n 1, 1) := by decide +kernel
theorem d_X_max_10 : decode b_X_max 10 = .ok (.ireturn, 1) := by decide +kernel
theorem d_X_min_0 : decode b_X_min 0 = .ok (.iload_n 0, 1) := by decide +kernel
theorem d_X_min_1 : decode b_X_min 1 = .ok (.iload_n 1, 1) := by decide +kernel
theorem d_X_min_2 : decode b_X_min 2 = .ok (.if_icmp .gt 7, 3) := by decide +kernel
theorem d_X_min_5 : decode b_X_min 5 = .ok (.iload_n 0, 1) := by decide +kernel
theorem d_X_min_6 : decode b_X_min 6 = .ok (.goto 4, 3) := by decide +kernel
theorem d_X_min_9 : decode b_X_min 9 = .ok (.iload_n 1, 1) := by decide +kernel
theorem d_X_min_10 : decode b_X_min 10 = .ok (.ireturn, 1) := by decide +kernel
theorem d_X_floorMod_0 : decode b_X_floorMod 0 = .ok (.iload_n 0, 1) := by decide +kernel
theorem d_X_floorMod_1 : decode b_X_floorMod 1 = .ok (.iload_n 1, 1) := by decide +kernel
theorem d_X_floorMod_2 : decode b_X_floorMod 2 = .ok (.irem, 1) := by decide +kernel
theorem d_X_floorMod_3 : decode b_X_floorMod 3 = .ok (.istore_n 2, 1) := by decide +kernel
theorem d_X_floorMod_4 : decode b_X_floorMod 4 = .ok (.iload_n 0, 1) := by decide +kernel
theorem d_X_floorMod_5 : decode b_X_floorMod 5 = .ok (.iload_n 1, 1) := by decide +kernel
theorem d_X_floorMod_6 : decode b_X_floorMod 6 = .ok (.ixor, 1) := by decide +kernel
theorem d_X_floorMod_7 : decode b_X_floorMod 7 = .ok (.ifCond .ge 11, 3) := by decide +kernel
theorem d_X_floorMod_10 : decode b_X_floorMod 10 = .ok (.iload_n 2, 1) := by decide +kernel
theorem d_X_floorMod_11 : decode b_X_floorMod 11 = .ok (.ifCond .eq 7, 3) := by decide +kernel
theorem d_X_floorMod_14 : decode b_X_floorMod 14 = .ok (.iload_n 2, 1) := by decide +kernel
theorem d_X_floorMod_15 : decode b_X_floorMod 15 = .ok (.iload_n 1, 1) := by decide +kernel
theorem d_X_floorMod_16 : decode b_X_floorMod 16 = .ok (.iadd, 1) := by decide +kernel
theorem d_X_floorMod_17 : decode b_X_floorMod 17 = .ok (.ireturn, 1) := by decide +kernel
theorem d_X_floorMod_18 : decode b_X_floorMod 18 = .ok (.iload_n 2, 1) := by decide +kernel
theorem d_X_floorMod_19 : decode b_X_floorMod 19 = .ok (.ireturn, 1) := by decide +kernel
end
section
theorem d_C_init_0 : decode b_C_init 0 = .ok (.aload_n 0, 1) := by decide +kernel
theorem d_C_init_1 : decode b_C_init 1 = .ok (.invokespecial 3, 3) := by decide +kernel
theorem d_C_init_4 : decode b_C_init 4 = .ok (.aload_n 0, 1) := by decide +kernel
theorem d_C_init_5 : decode b_C_init 5 = .ok (.iload_n 1, 1) := by decide +kernel
theorem d_C_init_6 : decode b_C_init 6 = .ok (.putfield 9, 3) := by decide +kernel
theorem d_C_init_9 : decode b_C_init 9 = .ok (.aload_n 0, 1) := by decide +kernel
theorem d_C_init_10 : decode b_C_init 10 = .ok (.aload_n 2, 1) := by decide +kernel
theorem d_C_init_11 : decode b_C_init 11 = .ok (.putfield 15, 3) := by decide +kernel
theorem d_C_init_14 : decode b_C_init 14 = .ok (.return_, 1) := by decide +kernel
theorem d_C_isStale_0 : decode b_C_isStale 0 = .ok (.iconst 0, 1) := by decide +kernel
theorem d_C_isStale_1 : decode b_C_isStale 1 = .ok (.ireturn, 1) := by decide +kernel
theorem d_C_covers_0 : decode b_C_covers 0 = .ok (.iconst 1, 1) := by decide +kernel
theorem d_C_covers_1 : decode b_C_covers 1 = .ok (.ireturn, 1) := by decide +kernel
theorem d_C_follow_0 : decode b_C_follow 0 = .ok (.return_, 1) := by decide +kernel
theorem d_C_isList_0 : decode b_C_isList 0 = .ok (.aload_n 0, 1) := by decide +kernel
theorem d_C_isList_1 : decode b_C_isList 1 = .ok (.getfield 9, 3) := by decide +kernel
theorem d_C_isList_4 : decode b_C_isList 4 = .ok (.ifCond .eq 20, 3) := by decide +kernel
theorem d_C_isList_7 : decode b_C_isList 7 = .ok (.aload_n 0, 1) := by decide +kernel
theorem d_C_isList_8 : decode b_C_isList 8 = .ok (.getfield 9, 3) := by decide +kernel
theorem d_C_isList_11 : decode b_C_isList 11 = .ok (.iconst 1, 1) := by decide +kernel
theorem d_C_isList_12 : decode b_C_isList 12 = .ok (.if_icmp .eq 12, 3) := by decide +kernel
theorem d_C_isList_15 : decode b_C_isList 15 = .ok (.aload_n 0, 1) := by decide +kernel
theorem d_C_isList_16 : decode b_C_isList 16 = .ok (.getfield 9, 3) := by decide +kernel
theorem d_C_isList_19 : decode b_C_isList 19 = .ok (.bipush 6, 2) := by decide +kernel
theorem d_C_isList_21 : decode b_C_isList 21 = .ok (.if_icmp .ne 7, 3) := by decide +kernel
theorem d_C_isList_24 : decode b_C_isList 24 = .ok (.iconst 1, 1) := by decide +kernel
theorem d_C_isList_25 : decode b_C_isList 25 = .ok (.goto 4, 3) := by decide +kernel
theorem d_C_isList_28 : decode b_C_isList 28 = .ok (.iconst 0, 1) := by decide +kernel
theorem d_C_isList_29 : decode b_C_isList 29 = .ok (.ireturn, 1) := by decide +kernel
theorem d_C_isMap_0 : decode b_C_isMap 0 = .ok (.aload_n 0, 1) := by decide +kernel
theorem d_C_isMap_1 : decode b_C_isMap 1 = .ok (.invokevirtual 19, 3) := by decide +kernel
theorem d_C_isMap_4 : decode b_C_isMap 4 = .ok (.ifCond .ne 10, 3) := by decide +kernel
theorem d_C_isMap_7 : decode b_C_isMap 7 = .ok (.aload_n 0, 1) := by decide +kernel
theorem d_C_isMap_8 : decode b_C_isMap 8 = .ok (.invokevirtual 23, 3) := by decide +kernel
theorem d_C_isMap_11 : decode b_C_isMap 11 = .ok (.ifCond .eq 7, 3) := by decide +kernel
theorem d_C_isMap_14 : decode b_C_isMap 14 = .ok (.iconst 1, 1) := by decide +kernel
theorem d_C_isMap_15 : decode b_C_isMap 15 = .ok (.goto 4, 3) := by decide +kernel
theorem d_C_isMap_18 : decode b_C_isMap 18 = .ok (.iconst 0, 1) := by decide +kernel
theorem d_C_isMap_19 : decode b_C_isMap 19 = .ok (.ireturn, 1) := by decide +kernel
theorem d_C_isHashed_0 : decode b_C_isHashed 0 = .ok (.aload_n 0, 1) := by decide +kernel
theorem d_C_isHashed_1 : decode b_C_isHashed 1 = .ok (.getfield 9, 3) := by decide +kernel
theorem d_C_isHashed_4 : decode b_C_isHashed 4 = .ok (.iconst 2, 1) := by decide +kernel
theorem d_C_isHashed_5 : decode b_C_isHashed 5 = .ok (.if_icmp .eq 11, 3) := by decide +kernel
theorem d_C_isHashed_8 : decode b_C_isHashed 8 = .ok (.aload_n 0, 1) := by decide +kernel
theorem d_C_isHashed_9 : decode b_C_isHashed 9 = .ok (.getfield 9, 3) := by decide +kernel
theorem d_C_isHashed_12 : decode b_C_isHashed 12 = .ok (.iconst 3, 1) := by decide +kernel
theorem d_C_isHashed_13 : decode b_C_isHashed 13 = .ok (.if_icmp .ne 7, 3) := by decide +kernel
theorem d_C_isHashed_16 : decode b_C_isHashed 16 = .ok (.iconst 1, 1) := by decide +kernel
theorem d_C_isHashed_17 : decode b_C_isHashed 17 = .ok (.goto 4, 3) := by decide +kernel
theorem d_C_isHashed_20 : decode b_C_isHashed 20 = .ok (.iconst 0, 1) := by decide +kernel
theorem d_C_isHashed_21 : decode b_C_isHashed 21 = .ok (.ireturn, 1) := by decide +kernel
theorem d_C_isSorted_0 : decode b_C_isSorted 0 = .ok (.aload_n 0, 1) := by decide +kernel
theorem d_C_isSorted_1 : decode b_C_isSorted 1 = .ok (.getfield 9, 3) := by decide +kernel
theorem d_C_isSorted_4 : decode b_C_isSorted 4 = .ok (.iconst 4, 1) := by decide +kernel
theorem d_C_isSorted_5 : decode b_C_isSorted 5 = .ok (.if_icmp .eq 12, 3) := by decide +kernel
theorem d_C_isSorted_8 : decode b_C_isSorted 8 = .ok (.aload_n 0, 1) := by decide +kernel
theorem d_C_isSorted_9 : decode b_C_isSorted 9 = .ok (.getfield 9, 3) := by decide +kernel
theorem d_C_isSorted_12 : decode b_C_isSorted 12 = .ok (.bipush 7, 2) := by decide +kernel
theorem d_C_isSorted_14 : decode b_C_isSorted 14 = .ok (.if_icmp .ne 7, 3) := by decide +kernel
theorem d_C_isSorted_17 : decode b_C_isSorted 17 = .ok (.iconst 1, 1) := by decide +kernel
theorem d_C_isSorted_18 : decode b_C_isSorted 18 = .ok (.goto 4, 3) := by decide +kernel
theorem d_C_isSorted_21 : decode b_C_isSorted 21 = .ok (.iconst 0, 1) := by decide +kernel
theorem d_C_isSorted_22 : decode b_C_isSorted 22 = .ok (.ireturn, 1) := by decide +kernel
theorem d_C_isPlace_0 : decode b_C_isPlace 0 = .ok (.iload_n 1, 1) := by decide +kernel
theorem d_C_isPlace_1 : decode b_C_isPlace 1 = .ok (.ifCond .lt 15, 3) := by decide +kernel
theorem d_C_isPlace_4 : decode b_C_isPlace 4 = .ok (.iload_n 1, 1) := by decide +kernel
theorem d_C_isPlace_5 : decode b_C_isPlace 5 = .ok (.aload_n 0, 1) := by decide +kernel
theorem d_C_isPlace_6 : decode b_C_isPlace 6 = .ok (.invokevirtual 26, 3) := by decide +kernel
theorem d_C_isPlace_9 : decode b_C_isPlace 9 = .ok (.if_icmp .ge 7, 3) := by decide +kernel
theorem d_C_isPlace_12 : decode b_C_isPlace 12 = .ok (.iconst 1, 1) := by decide +kernel
theorem d_C_isPlace_13 : decode b_C_isPlace 13 = .ok (.goto 4, 3) := by decide +kernel
theorem d_C_isPlace_16 : decode b_C_isPlace 16 = .ok (.iconst 0, 1) := by decide +kernel
theorem d_C_isPlace_17 : decode b_C_isPlace 17 = .ok (.ireturn, 1) := by decide +kernel
theorem d_C_numberAt_0 : decode b_C_numberAt 0 = .ok (.aload_n 0, 1) := by decide +kernel
theorem d_C_numberAt_1 : decode b_C_numberAt 1 = .ok (.getfield 15, 3) := by decide +kernel
theorem d_C_numberAt_4 : decode b_C_numberAt 4 = .ok (.aload_n 0, 1) := by decide +kernel
theorem d_C_numberAt_5 : decode b_C_numberAt 5 = .ok (.invokevirtual 30, 3) := by decide +kernel
theorem d_C_numberAt_8 : decode b_C_numberAt 8 = .ok (.iload_n 1, 1) := by decide +kernel
theorem d_C_numberAt_9 : decode b_C_numberAt 9 = .ok (.iadd, 1) := by decide +kernel
theorem d_C_numberAt_10 : decode b_C_numberAt 10 = .ok (.invokevirtual 33, 3) := by decide +kernel
theorem d_C_numberAt_13 : decode b_C_numberAt 13 = .ok (.ireturn, 1) := by decide +kernel
theorem d_C_valueAt_0 : decode b_C_valueAt 0 = .ok (.aload_n 0, 1) := by decide +kernel
theorem d_C_valueAt_1 : decode b_C_valueAt 1 = .ok (.getfield 15, 3) := by decide +kernel
theorem d_C_valueAt_4 : decode b_C_valueAt 4 = .ok (.aload_n 0, 1) := by decide +kernel
theorem d_C_valueAt_5 : decode b_C_valueAt 5 = .ok (.invokevirtual 30, 3) := by decide +kernel
theorem d_C_valueAt_8 : decode b_C_valueAt 8 = .ok (.iload_n 1, 1) := by decide +kernel
theorem d_C_valueAt_9 : decode b_C_valueAt 9 = .ok (.iadd, 1) := by decide +kernel
theorem d_C_valueAt_10 : decode b_C_valueAt 10 = .ok (.invokevirtual 39, 3) := by decide +kernel
theorem d_C_valueAt_13 : decode b_C_valueAt 13 = .ok (.ireturn, 1) := by decide +kernel
theorem d_C_placeOf_0 : decode b_C_placeOf 0 = .ok (.aload_n 0, 1) := by decide +kernel
theorem d_C_placeOf_1 : decode b_C_placeOf 1 = .ok (.iload_n 1, 1) := by decide +kernel
theorem d_C_placeOf_2 : decode b_C_placeOf 2 = .ok (.invokevirtual 42, 3) := by decide +kernel
theorem d_C_placeOf_5 : decode b_C_placeOf 5 = .ok (.ifCond .eq 31, 3) := by decide +kernel
theorem d_C_placeOf_8 : decode b_C_placeOf 8 = .ok (.aload_n 0, 1) := by decide +kernel
theorem d_C_placeOf_9 : decode b_C_placeOf 9 = .ok (.getfield 15, 3) := by decide +kernel
theorem d_C_placeOf_12 : decode b_C_placeOf 12 = .ok (.iload_n 1, 1) := by decide +kernel
theorem d_C_placeOf_13 : decode b_C_placeOf 13 = .ok (.invokevirtual 46, 3) := by decide +kernel
theorem d_C_placeOf_16 : decode b_C_placeOf 16 = .ok (.iconst (-1), 1) := by decide +kernel
theorem d_C_placeOf_17 : decode b_C_placeOf 17 = .ok (.if_icmp .eq 19, 3) := by decide +kernel
theorem d_C_placeOf_20 : decode b_C_placeOf 20 = .ok (.aload_n 0, 1) := by decide +kernel
theorem d_C_placeOf_21 : decode b_C_placeOf 21 = .ok (.getfield 15, 3) := by decide +kernel
theorem d_C_placeOf_24 : decode b_C_placeOf 24 = .ok (.iload_n 1, 1) := by decide +kernel
theorem d_C_placeOf_25 : decode b_C_placeOf 25 = .ok (.invokevirtual 46, 3) := by decide +kernel
theorem d_C_placeOf_28 : decode b_C_placeOf 28 = .ok (.aload_n 0, 1) := by decide +kernel
theorem d_C_placeOf_29 : decode b_C_placeOf 29 = .ok (.invokevirtual 30, 3) := by decide +kernel
theorem d_C_placeOf_32 : decode b_C_placeOf 32 = .ok (.isub, 1) := by decide +kernel
theorem d_C_placeOf_33 : decode b_C_placeOf 33 = .ok (.goto 4, 3) := by decide +kernel
theorem d_C_placeOf_36 : decode b_C_placeOf 36 = .ok (.iconst (-1), 1) := by decide +kernel
theorem d_C_placeOf_37 : decode b_C_placeOf 37 = .ok (.ireturn, 1) := by decide +kernel
theorem d_C_placesBefore_0 : decode b_C_placesBefore 0 = .ok (.aload_n 0, 1) := by decide +kernel
theorem d_C_placesBefore_1 : decode b_C_placesBefore 1 = .ok (.getfield 15, 3) := by decide +kernel
theorem d_C_placesBefore_4 : decode b_C_placesBefore 4 = .ok (.iload_n 1, 1) := by decide +kernel
theorem d_C_placesBefore_5 : decode b_C_placesBefore 5 = .ok (.iload_n 2, 1) := by decide +kernel
theorem d_C_placesBefore_6 : decode b_C_placesBefore 6 = .ok (.invokevirtual 49, 3) := by decide +kernel
theorem d_C_placesBefore_9 : decode b_C_placesBefore 9 = .ok (.aload_n 0, 1) := by decide +kernel
theorem d_C_placesBefore_10 : decode b_C_placesBefore 10 = .ok (.invokevirtual 30, 3) := by decide +kernel
theorem d_C_placesBefore_13 : decode b_C_placesBefore 13 = .ok (.isub, 1) := by decide +kernel
theorem d_C_placesBefore_14 : decode b_C_placesBefore 14 = .ok (.istore_n 3, 1) := by decide +kernel
theorem d_C_placesBefore_15 : decode b_C_placesBefore 15 = .ok (.iconst 0, 1) := by decide +kernel
theorem d_C_placesBefore_16 : decode b_C_placesBefore 16 = .ok (.iload_n 3, 1) := by decide +kernel
theorem d_C_placesBefore_17 : decode b_C_placesBefore 17 = .ok (.aload_n 0, 1) := by decide +kernel
theorem d_C_placesBefore_18 : decode b_C_placesBefore 18 = .ok (.invokevirtual 26, 3) := by decide +kernel
theorem d_C_placesBefore_21 : decode b_C_placesBefore 21 = .ok (.invokestatic 53, 3) := by decide +kernel
theorem d_C_placesBefore_24 : decode b_C_placesBefore 24 = .ok (.invokestatic 59, 3) := by decide +kernel
theorem d_C_placesBefore_27 : decode b_C_placesBefore 27 = .ok (.ireturn, 1) := by decide +kernel
theorem d_C_changeNumber_0 : decode b_C_changeNumber 0 = .ok (.aload_n 0, 1) := by decide +kernel
theorem d_C_changeNumber_1 : decode b_C_changeNumber 1 = .ok (.iload_n 1, 1) := by decide +kernel
theorem d_C_changeNumber_2 : decode b_C_changeNumber 2 = .ok (.invokevirtual 62, 3) := by decide +kernel
theorem d_C_changeNumber_5 : decode b_C_changeNumber 5 = .ok (.istore_n 3, 1) := by decide +kernel
theorem d_C_changeNumber_6 : decode b_C_changeNumber 6 = .ok (.aload_n 0, 1) := by decide +kernel
theorem d_C_changeNumber_7 : decode b_C_changeNumber 7 = .ok (.getfield 15, 3) := by decide +kernel
theorem d_C_changeNumber_10 : decode b_C_changeNumber 10 = .ok (.aload_n 0, 1) := by decide +kernel
theorem d_C_changeNumber_11 : decode b_C_changeNumber 11 = .ok (.invokevirtual 30, 3) := by decide +kernel
theorem d_C_changeNumber_14 : decode b_C_changeNumber 14 = .ok (.iload_n 1, 1) := by decide +kernel
theorem d_C_changeNumber_15 : decode b_C_changeNumber 15 = .ok (.iadd, 1) := by decide +kernel
theorem d_C_changeNumber_16 : decode b_C_changeNumber 16 = .ok (.iload_n 2, 1) := by decide +kernel
theorem d_C_changeNumber_17 : decode b_C_changeNumber 17 = .ok (.invokevirtual 63, 3) := by decide +kernel
theorem d_C_changeNumber_20 : decode b_C_changeNumber 20 = .ok (.iload_n 3, 1) := by decide +kernel
theorem d_C_changeNumber_21 : decode b_C_changeNumber 21 = .ok (.ireturn, 1) := by decide +kernel
theorem d_C_changeValue_0 : decode b_C_changeValue 0 = .ok (.aload_n 0, 1) := by decide +kernel
theorem d_C_changeValue_1 : decode b_C_changeValue 1 = .ok (.iload_n 1, 1) := by decide +kernel
theorem d_C_changeValue_2 : decode b_C_changeValue 2 = .ok (.invokevirtual 67, 3) := by decide +kernel
theorem d_C_changeValue_5 : decode b_C_changeValue 5 = .ok (.istore_n 3, 1) := by decide +kernel
theorem d_C_changeValue_6 : decode b_C_changeValue 6 = .ok (.aload_n 0, 1) := by decide +kernel
theorem d_C_changeValue_7 : decode b_C_changeValue 7 = .ok (.getfield 15, 3) := by decide +kernel
theorem d_C_changeValue_10 : decode b_C_changeValue 10 = .ok (.aload_n 0, 1) := by decide +kernel
theorem d_C_changeValue_11 : decode b_C_changeValue 11 = .ok (.invokevirtual 30, 3) := by decide +kernel
theorem d_C_changeValue_14 : decode b_C_changeValue 14 = .ok (.iload_n 1, 1) := by decide +kernel
theorem d_C_changeValue_15 : decode b_C_changeValue 15 = .ok (.iadd, 1) := by decide +kernel
theorem d_C_changeValue_16 : decode b_C_changeValue 16 = .ok (.iload_n 2, 1) := by decide +kernel
theorem d_C_changeValue_17 : decode b_C_changeValue 17 = .ok (.invokevirtual 68, 3) := by decide +kernel
theorem d_C_changeValue_20 : decode b_C_changeValue 20 = .ok (.iload_n 3, 1) := by decide +kernel
theorem d_C_changeValue_21 : decode b_C_changeValue 21 = .ok (.ireturn, 1) := by decide +kernel
theorem d_C_bring_0 : decode b_C_bring 0 = .ok (.aload_n 0, 1) := by decide +kernel
theorem d_C_bring_1 : decode b_C_bring 1 = .ok (.getfield 15, 3) := by decide +kernel
theorem d_C_bring_4 : decode b_C_bring 4 = .ok (.aload_n 0, 1) := by decide +kernel
theorem d_C_bring_5 : decode b_C_bring 5 = .ok (.invokevirtual 30, 3) := by decide +kernel
theorem d_C_bring_8 : decode b_C_bring 8 = .ok (.iload_n 1, 1) := by decide +kernel
theorem d_C_bring_9 : decode b_C_bring 9 = .ok (.iadd, 1) := by decide +kernel
theorem d_C_bring_10 : decode b_C_bring 10 = .ok (.iload_n 2, 1) := by decide +kernel
theorem d_C_bring_11 : decode b_C_bring 11 = .ok (.iconst 0, 1) := by decide +kernel
theorem d_C_bring_12 : decode b_C_bring 12 = .ok (.invokevirtual 71, 3) := by decide +kernel
theorem d_C_bring_15 : decode b_C_bring 15 = .ok (.aload_n 0, 1) := by decide +kernel
theorem d_C_bring_16 : decode b_C_bring 16 = .ok (.iconst 1, 1) := by decide +kernel
theorem d_C_bring_17 : decode b_C_bring 17 = .ok (.invokevirtual 75, 3) := by decide +kernel
theorem d_C_bring_20 : decode b_C_bring 20 = .ok (.return_, 1) := by decide +kernel
theorem d_C_take_0 : decode b_C_take 0 = .ok (.aload_n 0, 1) := by decide +kernel
theorem d_C_take_1 : decode b_C_take 1 = .ok (.iload_n 1, 1) := by decide +kernel
theorem d_C_take_2 : decode b_C_take 2 = .ok (.invokevirtual 62, 3) := by decide +kernel
theorem d_C_take_5 : decode b_C_take 5 = .ok (.istore_n 2, 1) := by decide +kernel
theorem d_C_take_6 : decode b_C_take 6 = .ok (.aload_n 0, 1) := by decide +kernel
theorem d_C_take_7 : decode b_C_take 7 = .ok (.getfield 15, 3) := by decide +kernel
theorem d_C_take_10 : decode b_C_take 10 = .ok (.aload_n 0, 1) := by decide +kernel
theorem d_C_take_11 : decode b_C_take 11 = .ok (.invokevirtual 30, 3) := by decide +kernel
theorem d_C_take_14 : decode b_C_take 14 = .ok (.iload_n 1, 1) := by decide +kernel
theorem d_C_take_15 : decode b_C_take 15 = .ok (.iadd, 1) := by decide +kernel
theorem d_C_take_16 : decode b_C_take 16 = .ok (.invokevirtual 79, 3) := by decide +kernel
theorem d_C_take_19 : decode b_C_take 19 = .ok (.aload_n 0, 1) := by decide +kernel
theorem d_C_take_20 : decode b_C_take 20 = .ok (.iconst (-1), 1) := by decide +kernel
theorem d_C_take_21 : decode b_C_take 21 = .ok (.invokevirtual 75, 3) := by decide +kernel
theorem d_C_take_24 : decode b_C_take 24 = .ok (.iload_n 2, 1) := by decide +kernel
theorem d_C_take_25 : decode b_C_take 25 = .ok (.ireturn, 1) := by decide +kernel
theorem d_C_arrange_0 : decode b_C_arrange 0 = .ok (.aload_n 0, 1) := by decide +kernel
theorem d_C_arrange_1 : decode b_C_arrange 1 = .ok (.getfield 15, 3) := by decide +kernel
theorem d_C_arrange_4 : decode b_C_arrange 4 = .ok (.aload_n 0, 1) := by decide +kernel
theorem d_C_arrange_5 : decode b_C_arrange 5 = .ok (.invokevirtual 30, 3) := by decide +kernel
theorem d_C_arrange_8 : decode b_C_arrange 8 = .ok (.aload_n 0, 1) := by decide +kernel
theorem d_C_arrange_9 : decode b_C_arrange 9 = .ok (.invokevirtual 30, 3) := by decide +kernel
theorem d_C_arrange_12 : decode b_C_arrange 12 = .ok (.aload_n 0, 1) := by decide +kernel
theorem d_C_arrange_13 : decode b_C_arrange 13 = .ok (.invokevirtual 26, 3) := by decide +kernel
theorem d_C_arrange_16 : decode b_C_arrange 16 = .ok (.iadd, 1) := by decide +kernel
theorem d_C_arrange_17 : decode b_C_arrange 17 = .ok (.iload_n 1, 1) := by decide +kernel
theorem d_C_arrange_18 : decode b_C_arrange 18 = .ok (.invokevirtual 82, 3) := by decide +kernel
theorem d_C_arrange_21 : decode b_C_arrange 21 = .ok (.aload_n 0, 1) := by decide +kernel
theorem d_C_arrange_22 : decode b_C_arrange 22 = .ok (.iconst 0, 1) := by decide +kernel
theorem d_C_arrange_23 : decode b_C_arrange 23 = .ok (.invokevirtual 75, 3) := by decide +kernel
theorem d_C_arrange_26 : decode b_C_arrange 26 = .ok (.return_, 1) := by decide +kernel
theorem d_C_takeAll_0 : decode b_C_takeAll 0 = .ok (.iload_n 1, 1) := by decide +kernel
theorem d_C_takeAll_1 : decode b_C_takeAll 1 = .ok (.iconst 1, 1) := by decide +kernel
theorem d_C_takeAll_2 : decode b_C_takeAll 2 = .ok (.if_icmp .ge 5, 3) := by decide +kernel
theorem d_C_takeAll_5 : decode b_C_takeAll 5 = .ok (.iconst 0, 1) := by decide +kernel
theorem d_C_takeAll_6 : decode b_C_takeAll 6 = .ok (.ireturn, 1) := by decide +kernel
theorem d_C_takeAll_7 : decode b_C_takeAll 7 = .ok (.iconst 0, 1) := by decide +kernel
theorem d_C_takeAll_8 : decode b_C_takeAll 8 = .ok (.istore_n 3, 1) := by decide +kernel
theorem d_C_takeAll_9 : decode b_C_takeAll 9 = .ok (.aload_n 0, 1) := by decide +kernel
theorem d_C_takeAll_10 : decode b_C_takeAll 10 = .ok (.invokevirtual 26, 3) := by decide +kernel
theorem d_C_takeAll_13 : decode b_C_takeAll 13 = .ok (.iconst 1, 1) := by decide +kernel
theorem d_C_takeAll_14 : decode b_C_takeAll 14 = .ok (.isub, 1) := by decide +kernel
theorem d_C_takeAll_15 : decode b_C_takeAll 15 = .ok (.istore 4, 2) := by decide +kernel
theorem d_C_takeAll_17 : decode b_C_takeAll 17 = .ok (.iload 4, 2) := by decide +kernel
theorem d_C_takeAll_19 : decode b_C_takeAll 19 = .ok (.ifCond .lt 33, 3) := by decide +kernel
theorem d_C_takeAll_22 : decode b_C_takeAll 22 = .ok (.aload_n 0, 1) := by decide +kernel
theorem d_C_takeAll_23 : decode b_C_takeAll 23 = .ok (.iload 4, 2) := by decide +kernel
theorem d_C_takeAll_25 : decode b_C_takeAll 25 = .ok (.invokevirtual 62, 3) := by decide +kernel
theorem d_C_takeAll_28 : decode b_C_takeAll 28 = .ok (.iload_n 1, 1) := by decide +kernel
theorem d_C_takeAll_29 : decode b_C_takeAll 29 = .ok (.invokestatic 85, 3) := by decide +kernel
theorem d_C_takeAll_32 : decode b_C_takeAll 32 = .ok (.iload_n 2, 1) := by decide +kernel
theorem d_C_takeAll_33 : decode b_C_takeAll 33 = .ok (.if_icmp .ne 13, 3) := by decide +kernel
theorem d_C_takeAll_36 : decode b_C_takeAll 36 = .ok (.aload_n 0, 1) := by decide +kernel
theorem d_C_takeAll_37 : decode b_C_takeAll 37 = .ok (.iload 4, 2) := by decide +kernel
theorem d_C_takeAll_39 : decode b_C_takeAll 39 = .ok (.invokevirtual 88, 3) := by decide +kernel
theorem d_C_takeAll_42 : decode b_C_takeAll 42 = .ok (.pop, 1) := by decide +kernel
theorem d_C_takeAll_43 : decode b_C_takeAll 43 = .ok (.iinc 3 1, 3) := by decide +kernel
theorem d_C_takeAll_46 : decode b_C_takeAll 46 = .ok (.iinc 4 (-1), 3) := by decide +kernel
theorem d_C_takeAll_49 : decode b_C_takeAll 49 = .ok (.goto (-32), 3) := by decide +kernel
theorem d_C_takeAll_52 : decode b_C_takeAll 52 = .ok (.iload_n 3, 1) := by decide +kernel
theorem d_C_takeAll_53 : decode b_C_takeAll 53 = .ok (.ireturn, 1) := by decide +kernel
theorem d_C_hasNumbersOf_0 : decode b_C_hasNumbersOf 0 = .ok (.aload_n 0, 1) := by decide +kernel
theorem d_C_hasNumbersOf_1 : decode b_C_hasNumbersOf 1 = .ok (.invokevirtual 26, 3) := by decide +kernel
theorem d_C_hasNumbersOf_4 : decode b_C_hasNumbersOf 4 = .ok (.istore_n 2, 1) := by decide +kernel
theorem d_C_hasNumbersOf_5 : decode b_C_hasNumbersOf 5 = .ok (.iload_n 2, 1) := by decide +kernel
theorem d_C_hasNumbersOf_6 : decode b_C_hasNumbersOf 6 = .ok (.aload_n 1, 1) := by decide +kernel
theorem d_C_hasNumbersOf_7 : decode b_C_hasNumbersOf 7 = .ok (.invokevirtual 26, 3) := by decide +kernel
theorem d_C_hasNumbersOf_10 : decode b_C_hasNumbersOf 10 = .ok (.if_icmp .eq 5, 3) := by decide +kernel
theorem d_C_hasNumbersOf_13 : decode b_C_hasNumbersOf 13 = .ok (.iconst 0, 1) := by decide +kernel
theorem d_C_hasNumbersOf_14 : decode b_C_hasNumbersOf 14 = .ok (.ireturn, 1) := by decide +kernel
theorem d_C_hasNumbersOf_15 : decode b_C_hasNumbersOf 15 = .ok (.iconst 0, 1) := by decide +kernel
theorem d_C_hasNumbersOf_16 : decode b_C_hasNumbersOf 16 = .ok (.istore_n 3, 1) := by decide +kernel
theorem d_C_hasNumbersOf_17 : decode b_C_hasNumbersOf 17 = .ok (.iload_n 3, 1) := by decide +kernel
theorem d_C_hasNumbersOf_18 : decode b_C_hasNumbersOf 18 = .ok (.iload_n 2, 1) := by decide +kernel
theorem d_C_hasNumbersOf_19 : decode b_C_hasNumbersOf 19 = .ok (.if_icmp .ge 24, 3) := by decide +kernel
theorem d_C_hasNumbersOf_22 : decode b_C_hasNumbersOf 22 = .ok (.aload_n 0, 1) := by decide +kernel
theorem d_C_hasNumbersOf_23 : decode b_C_hasNumbersOf 23 = .ok (.iload_n 3, 1) := by decide +kernel
theorem d_C_hasNumbersOf_24 : decode b_C_hasNumbersOf 24 = .ok (.invokevirtual 62, 3) := by decide +kernel
theorem d_C_hasNumbersOf_27 : decode b_C_hasNumbersOf 27 = .ok (.aload_n 1, 1) := by decide +kernel
theorem d_C_hasNumbersOf_28 : decode b_C_hasNumbersOf 28 = .ok (.iload_n 3, 1) := by decide +kernel
theorem d_C_hasNumbersOf_29 : decode b_C_hasNumbersOf 29 = .ok (.invokevirtual 62, 3) := by decide +kernel
theorem d_C_hasNumbersOf_32 : decode b_C_hasNumbersOf 32 = .ok (.if_icmp .eq 5, 3) := by decide +kernel
theorem d_C_hasNumbersOf_35 : decode b_C_hasNumbersOf 35 = .ok (.iconst 0, 1) := by decide +kernel
theorem d_C_hasNumbersOf_36 : decode b_C_hasNumbersOf 36 = .ok (.ireturn, 1) := by decide +kernel
theorem d_C_hasNumbersOf_37 : decode b_C_hasNumbersOf 37 = .ok (.iinc 3 1, 3) := by decide +kernel
theorem d_C_hasNumbersOf_40 : decode b_C_hasNumbersOf 40 = .ok (.goto (-23), 3) := by decide +kernel
theorem d_C_hasNumbersOf_43 : decode b_C_hasNumbersOf 43 = .ok (.iconst 1, 1) := by decide +kernel
theorem d_C_hasNumbersOf_44 : decode b_C_hasNumbersOf 44 = .ok (.ireturn, 1) := by decide +kernel
theorem d_C_hasPairsOf_0 : decode b_C_hasPairsOf 0 = .ok (.aload_n 0, 1) := by decide +kernel
theorem d_C_hasPairsOf_1 : decode b_C_hasPairsOf 1 = .ok (.invokevirtual 26, 3) := by decide +kernel
theorem d_C_hasPairsOf_4 : decode b_C_hasPairsOf 4 = .ok (.istore_n 2, 1) := by decide +kernel
theorem d_C_hasPairsOf_5 : decode b_C_hasPairsOf 5 = .ok (.iload_n 2, 1) := by decide +kernel
theorem d_C_hasPairsOf_6 : decode b_C_hasPairsOf 6 = .ok (.aload_n 1, 1) := by decide +kernel
theorem d_C_hasPairsOf_7 : decode b_C_hasPairsOf 7 = .ok (.invokevirtual 26, 3) := by decide +kernel
theorem d_C_hasPairsOf_10 : decode b_C_hasPairsOf 10 = .ok (.if_icmp .eq 5, 3) := by decide +kernel
theorem d_C_hasPairsOf_13 : decode b_C_hasPairsOf 13 = .ok (.iconst 0, 1) := by decide +kernel
theorem d_C_hasPairsOf_14 : decode b_C_hasPairsOf 14 = .ok (.ireturn, 1) := by decide +kernel
theorem d_C_hasPairsOf_15 : decode b_C_hasPairsOf 15 = .ok (.iconst 0, 1) := by decide +kernel
theorem d_C_hasPairsOf_16 : decode b_C_hasPairsOf 16 = .ok (.istore_n 3, 1) := by decide +kernel
theorem d_C_hasPairsOf_17 : decode b_C_hasPairsOf 17 = .ok (.iload_n 3, 1) := by decide +kernel
theorem d_C_hasPairsOf_18 : decode b_C_hasPairsOf 18 = .ok (.iload_n 2, 1) := by decide +kernel
theorem d_C_hasPairsOf_19 : decode b_C_hasPairsOf 19 = .ok (.if_icmp .ge 42, 3) := by decide +kernel
theorem d_C_hasPairsOf_22 : decode b_C_hasPairsOf 22 = .ok (.aload_n 1, 1) := by decide +kernel
theorem d_C_hasPairsOf_23 : decode b_C_hasPairsOf 23 = .ok (.aload_n 0, 1) := by decide +kernel
theorem d_C_hasPairsOf_24 : decode b_C_hasPairsOf 24 = .ok (.iload_n 3, 1) := by decide +kernel
theorem d_C_hasPairsOf_25 : decode b_C_hasPairsOf 25 = .ok (.invokevirtual 62, 3) := by decide +kernel
theorem d_C_hasPairsOf_28 : decode b_C_hasPairsOf 28 = .ok (.invokevirtual 91, 3) := by decide +kernel
theorem d_C_hasPairsOf_31 : decode b_C_hasPairsOf 31 = .ok (.istore 4, 2) := by decide +kernel
theorem d_C_hasPairsOf_33 : decode b_C_hasPairsOf 33 = .ok (.iload 4, 2) := by decide +kernel
theorem d_C_hasPairsOf_35 : decode b_C_hasPairsOf 35 = .ok (.iconst (-1), 1) := by decide +kernel
theorem d_C_hasPairsOf_36 : decode b_C_hasPairsOf 36 = .ok (.if_icmp .eq 17, 3) := by decide +kernel
theorem d_C_hasPairsOf_39 : decode b_C_hasPairsOf 39 = .ok (.aload_n 0, 1) := by decide +kernel
theorem d_C_hasPairsOf_40 : decode b_C_hasPairsOf 40 = .ok (.iload_n 3, 1) := by decide +kernel
theorem d_C_hasPairsOf_41 : decode b_C_hasPairsOf 41 = .ok (.invokevirtual 67, 3) := by decide +kernel
theorem d_C_hasPairsOf_44 : decode b_C_hasPairsOf 44 = .ok (.aload_n 1, 1) := by decide +kernel
theorem d_C_hasPairsOf_45 : decode b_C_hasPairsOf 45 = .ok (.iload 4, 2) := by decide +kernel
theorem d_C_hasPairsOf_47 : decode b_C_hasPairsOf 47 = .ok (.invokevirtual 67, 3) := by decide +kernel
theorem d_C_hasPairsOf_50 : decode b_C_hasPairsOf 50 = .ok (.if_icmp .eq 5, 3) := by decide +kernel
theorem d_C_hasPairsOf_53 : decode b_C_hasPairsOf 53 = .ok (.iconst 0, 1) := by decide +kernel
theorem d_C_hasPairsOf_54 : decode b_C_hasPairsOf 54 = .ok (.ireturn, 1) := by decide +kernel
theorem d_C_hasPairsOf_55 : decode b_C_hasPairsOf 55 = .ok (.iinc 3 1, 3) := by decide +kernel
theorem d_C_hasPairsOf_58 : decode b_C_hasPairsOf 58 = .ok (.goto (-41), 3) := by decide +kernel
theorem d_C_hasPairsOf_61 : decode b_C_hasPairsOf 61 = .ok (.iconst 1, 1) := by decide +kernel
theorem d_C_hasPairsOf_62 : decode b_C_hasPairsOf 62 = .ok (.ireturn, 1) := by decide +kernel
theorem d_P_init_0 : decode b_P_init 0 = .ok (.aload_n 0, 1) := by decide +kernel
theorem d_P_init_1 : decode b_P_init 1 = .ok (.bipush 6, 2) := by decide +kernel
theorem d_P_init_3 : decode b_P_init 3 = .ok (.aload_n 1, 1) := by decide +kernel
theorem d_P_init_4 : decode b_P_init 4 = .ok (.invokespecial 3, 3) := by decide +kernel
theorem d_P_init_7 : decode b_P_init 7 = .ok (.aload_n 0, 1) := by decide +kernel
theorem d_P_init_8 : decode b_P_init 8 = .ok (.aload_n 2, 1) := by decide +kernel
theorem d_P_init_9 : decode b_P_init 9 = .ok (.putfield 9, 3) := by decide +kernel
theorem d_P_init_12 : decode b_P_init 12 = .ok (.aload_n 0, 1) := by decide +kernel
theorem d_P_init_13 : decode b_P_init 13 = .ok (.iload_n 3, 1) := by decide +kernel
theorem d_P_init_14 : decode b_P_init 14 = .ok (.putfield 15, 3) := by decide +kernel
theorem d_P_init_17 : decode b_P_init 17 = .ok (.aload_n 0, 1) := by decide +kernel
theorem d_P_init_18 : decode b_P_init 18 = .ok (.iload 4, 2) := by decide +kernel
theorem d_P_init_20 : decode b_P_init 20 = .ok (.putfield 19, 3) := by decide +kernel
theorem d_P_init_23 : decode b_P_init 23 = .ok (.aload_n 0, 1) := by decide +kernel
theorem d_P_init_24 : decode b_P_init 24 = .ok (.aload_n 1, 1) := by decide +kernel
theorem d_P_init_25 : decode b_P_init 25 = .ok (.getfield 22, 3) := by decide +kernel
theorem d_P_init_28 : decode b_P_init 28 = .ok (.putfield 27, 3) := by decide +kernel
theorem d_P_init_31 : decode b_P_init 31 = .ok (.return_, 1) := by decide +kernel
theorem d_P_start_0 : decode b_P_start 0 = .ok (.aload_n 0, 1) := by decide +kernel
theorem d_P_start_1 : decode b_P_start 1 = .ok (.getfield 15, 3) := by decide +kernel
theorem d_P_start_4 : decode b_P_start 4 = .ok (.ireturn, 1) := by decide +kernel
theorem d_P_count_0 : decode b_P_count 0 = .ok (.aload_n 0, 1) := by decide +kernel
theorem d_P_count_1 : decode b_P_count 1 = .ok (.getfield 19, 3) := by decide +kernel
theorem d_P_count_4 : decode b_P_count 4 = .ok (.ireturn, 1) := by decide +kernel
theorem d_P_isStale_0 : decode b_P_isStale 0 = .ok (.aload_n 0, 1) := by decide +kernel
theorem d_P_isStale_1 : decode b_P_isStale 1 = .ok (.getfield 27, 3) := by decide +kernel
theorem d_P_isStale_4 : decode b_P_isStale 4 = .ok (.aload_n 0, 1) := by decide +kernel
theorem d_P_isStale_5 : decode b_P_isStale 5 = .ok (.getfield 30, 3) := by decide +kernel
theorem d_P_isStale_8 : decode b_P_isStale 8 = .ok (.getfield 22, 3) := by decide +kernel
theorem d_P_isStale_11 : decode b_P_isStale 11 = .ok (.if_icmp .eq 7, 3) := by decide +kernel
theorem d_P_isStale_14 : decode b_P_isStale 14 = .ok (.iconst 1, 1) := by decide +kernel
theorem d_P_isStale_15 : decode b_P_isStale 15 = .ok (.goto 4, 3) := by decide +kernel
theorem d_P_isStale_18 : decode b_P_isStale 18 = .ok (.iconst 0, 1) := by decide +kernel
theorem d_P_isStale_19 : decode b_P_isStale 19 = .ok (.ireturn, 1) := by decide +kernel
theorem d_P_follow_0 : decode b_P_follow 0 = .ok (.aload_n 0, 1) := by decide +kernel
theorem d_P_follow_1 : decode b_P_follow 1 = .ok (.astore_n 2, 1) := by decide +kernel
theorem d_P_follow_2 : decode b_P_follow 2 = .ok (.aload_n 2, 1) := by decide +kernel
theorem d_P_follow_3 : decode b_P_follow 3 = .ok (.ifnull 32, 3) := by decide +kernel
theorem d_P_follow_6 : decode b_P_follow 6 = .ok (.aload_n 2, 1) := by decide +kernel
theorem d_P_follow_7 : decode b_P_follow 7 = .ok (.dup, 1) := by decide +kernel
theorem d_P_follow_8 : decode b_P_follow 8 = .ok (.getfield 19, 3) := by decide +kernel
theorem d_P_follow_11 : decode b_P_follow 11 = .ok (.iload_n 1, 1) := by decide +kernel
theorem d_P_follow_12 : decode b_P_follow 12 = .ok (.iadd, 1) := by decide +kernel
theorem d_P_follow_13 : decode b_P_follow 13 = .ok (.putfield 19, 3) := by decide +kernel
theorem d_P_follow_16 : decode b_P_follow 16 = .ok (.aload_n 2, 1) := by decide +kernel
theorem d_P_follow_17 : decode b_P_follow 17 = .ok (.aload_n 0, 1) := by decide +kernel
theorem d_P_follow_18 : decode b_P_follow 18 = .ok (.getfield 30, 3) := by decide +kernel
theorem d_P_follow_21 : decode b_P_follow 21 = .ok (.getfield 22, 3) := by decide +kernel
theorem d_P_follow_24 : decode b_P_follow 24 = .ok (.putfield 27, 3) := by decide +kernel
theorem d_P_follow_27 : decode b_P_follow 27 = .ok (.aload_n 2, 1) := by decide +kernel
theorem d_P_follow_28 : decode b_P_follow 28 = .ok (.getfield 9, 3) := by decide +kernel
theorem d_P_follow_31 : decode b_P_follow 31 = .ok (.astore_n 2, 1) := by decide +kernel
theorem d_P_follow_32 : decode b_P_follow 32 = .ok (.goto (-30), 3) := by decide +kernel
theorem d_P_follow_35 : decode b_P_follow 35 = .ok (.return_, 1) := by decide +kernel
theorem d_R_init_0 : decode b_R_init 0 = .ok (.aload_n 0, 1) := by decide +kernel
theorem d_R_init_1 : decode b_R_init 1 = .ok (.bipush 7, 2) := by decide +kernel
theorem d_R_init_3 : decode b_R_init 3 = .ok (.aload_n 1, 1) := by decide +kernel
theorem d_R_init_4 : decode b_R_init 4 = .ok (.invokespecial 3, 3) := by decide +kernel
theorem d_R_init_7 : decode b_R_init 7 = .ok (.aload_n 0, 1) := by decide +kernel
theorem d_R_init_8 : decode b_R_init 8 = .ok (.iload_n 2, 1) := by decide +kernel
theorem d_R_init_9 : decode b_R_init 9 = .ok (.putfield 9, 3) := by decide +kernel
theorem d_R_init_12 : decode b_R_init 12 = .ok (.aload_n 0, 1) := by decide +kernel
theorem d_R_init_13 : decode b_R_init 13 = .ok (.iload_n 3, 1) := by decide +kernel
theorem d_R_init_14 : decode b_R_init 14 = .ok (.putfield 15, 3) := by decide +kernel
theorem d_R_init_17 : decode b_R_init 17 = .ok (.return_, 1) := by decide +kernel
theorem d_R_start_0 : decode b_R_start 0 = .ok (.aload_n 0, 1) := by decide +kernel
theorem d_R_start_1 : decode b_R_start 1 = .ok (.getfield 18, 3) := by decide +kernel
theorem d_R_start_4 : decode b_R_start 4 = .ok (.aload_n 0, 1) := by decide +kernel
theorem d_R_start_5 : decode b_R_start 5 = .ok (.getfield 9, 3) := by decide +kernel
theorem d_R_start_8 : decode b_R_start 8 = .ok (.iconst 0, 1) := by decide +kernel
theorem d_R_start_9 : decode b_R_start 9 = .ok (.invokevirtual 22, 3) := by decide +kernel
theorem d_R_start_12 : decode b_R_start 12 = .ok (.ireturn, 1) := by decide +kernel
theorem d_R_count_0 : decode b_R_count 0 = .ok (.iconst 0, 1) := by decide +kernel
theorem d_R_count_1 : decode b_R_count 1 = .ok (.aload_n 0, 1) := by decide +kernel
theorem d_R_count_2 : decode b_R_count 2 = .ok (.getfield 18, 3) := by decide +kernel
theorem d_R_count_5 : decode b_R_count 5 = .ok (.aload_n 0, 1) := by decide +kernel
theorem d_R_count_6 : decode b_R_count 6 = .ok (.getfield 15, 3) := by decide +kernel
theorem d_R_count_9 : decode b_R_count 9 = .ok (.iconst 1, 1) := by decide +kernel
theorem d_R_count_10 : decode b_R_count 10 = .ok (.invokevirtual 22, 3) := by decide +kernel
theorem d_R_count_13 : decode b_R_count 13 = .ok (.aload_n 0, 1) := by decide +kernel
theorem d_R_count_14 : decode b_R_count 14 = .ok (.invokevirtual 28, 3) := by decide +kernel
theorem d_R_count_17 : decode b_R_count 17 = .ok (.isub, 1) := by decide +kernel
theorem d_R_count_18 : decode b_R_count 18 = .ok (.invokestatic 32, 3) := by decide +kernel
theorem d_R_count_21 : decode b_R_count 21 = .ok (.ireturn, 1) := by decide +kernel
theorem d_R_covers_0 : decode b_R_covers 0 = .ok (.iload_n 1, 1) := by decide +kernel
theorem d_R_covers_1 : decode b_R_covers 1 = .ok (.aload_n 0, 1) := by decide +kernel
theorem d_R_covers_2 : decode b_R_covers 2 = .ok (.getfield 9, 3) := by decide +kernel
theorem d_R_covers_5 : decode b_R_covers 5 = .ok (.if_icmp .lt 15, 3) := by decide +kernel
theorem d_R_covers_8 : decode b_R_covers 8 = .ok (.iload_n 1, 1) := by decide +kernel
theorem d_R_covers_9 : decode b_R_covers 9 = .ok (.aload_n 0, 1) := by decide +kernel
theorem d_R_covers_10 : decode b_R_covers 10 = .ok (.getfield 15, 3) := by decide +kernel
theorem d_R_covers_13 : decode b_R_covers 13 = .ok (.if_icmp .gt 7, 3) := by decide +kernel
theorem d_R_covers_16 : decode b_R_covers 16 = .ok (.iconst 1, 1) := by decide +kernel
theorem d_R_covers_17 : decode b_R_covers 17 = .ok (.goto 4, 3) := by decide +kernel
theorem d_R_covers_20 : decode b_R_covers 20 = .ok (.iconst 0, 1) := by decide +kernel
theorem d_R_covers_21 : decode b_R_covers 21 = .ok (.ireturn, 1) := by decide +kernel
theorem d_W_init_0 : decode b_W_init 0 = .ok (.aload_n 0, 1) := by decide +kernel
theorem d_W_init_1 : decode b_W_init 1 = .ok (.invokespecial 3, 3) := by decide +kernel
theorem d_W_init_4 : decode b_W_init 4 = .ok (.aload_n 0, 1) := by decide +kernel
theorem d_W_init_5 : decode b_W_init 5 = .ok (.aconst_null, 1) := by decide +kernel
theorem d_W_init_6 : decode b_W_init 6 = .ok (.putfield 9, 3) := by decide +kernel
theorem d_W_init_9 : decode b_W_init 9 = .ok (.aload_n 0, 1) := by decide +kernel
theorem d_W_init_10 : decode b_W_init 10 = .ok (.iconst 0, 1) := by decide +kernel
theorem d_W_init_11 : decode b_W_init 11 = .ok (.putfield 15, 3) := by decide +kernel
theorem d_W_init_14 : decode b_W_init 14 = .ok (.aload_n 0, 1) := by decide +kernel
theorem d_W_init_15 : decode b_W_init 15 = .ok (.iconst (-1), 1) := by decide +kernel
theorem d_W_init_16 : decode b_W_init 16 = .ok (.putfield 19, 3) := by decide +kernel
theorem d_W_init_19 : decode b_W_init 19 = .ok (.aload_n 0, 1) := by decide +kernel
theorem d_W_init_20 : decode b_W_init 20 = .ok (.iconst 0, 1) := by decide +kernel
theorem d_W_init_21 : decode b_W_init 21 = .ok (.putfield 22, 3) := by decide +kernel
theorem d_W_init_24 : decode b_W_init 24 = .ok (.return_, 1) := by decide +kernel
theorem d_W_begin_0 : decode b_W_begin 0 = .ok (.aload_n 0, 1) := by decide +kernel
theorem d_W_begin_1 : decode b_W_begin 1 = .ok (.aload_n 1, 1) := by decide +kernel
theorem d_W_begin_2 : decode b_W_begin 2 = .ok (.putfield 9, 3) := by decide +kernel
theorem d_W_begin_5 : decode b_W_begin 5 = .ok (.aload_n 0, 1) := by decide +kernel
theorem d_W_begin_6 : decode b_W_begin 6 = .ok (.iconst 0, 1) := by decide +kernel
theorem d_W_begin_7 : decode b_W_begin 7 = .ok (.invokevirtual 25, 3) := by decide +kernel
theorem d_W_begin_10 : decode b_W_begin 10 = .ok (.return_, 1) := by decide +kernel
theorem d_W_standAt_0 : decode b_W_standAt 0 = .ok (.aload_n 0, 1) := by decide +kernel
theorem d_W_standAt_1 : decode b_W_standAt 1 = .ok (.getfield 9, 3) := by decide +kernel
theorem d_W_standAt_4 : decode b_W_standAt 4 = .ok (.ifnull 27, 3) := by decide +kernel
theorem d_W_standAt_7 : decode b_W_standAt 7 = .ok (.aload_n 0, 1) := by decide +kernel
theorem d_W_standAt_8 : decode b_W_standAt 8 = .ok (.iload_n 1, 1) := by decide +kernel
theorem d_W_standAt_9 : decode b_W_standAt 9 = .ok (.putfield 15, 3) := by decide +kernel
theorem d_W_standAt_12 : decode b_W_standAt 12 = .ok (.aload_n 0, 1) := by decide +kernel
theorem d_W_standAt_13 : decode b_W_standAt 13 = .ok (.iconst (-1), 1) := by decide +kernel
theorem d_W_standAt_14 : decode b_W_standAt 14 = .ok (.putfield 19, 3) := by decide +kernel
theorem d_W_standAt_17 : decode b_W_standAt 17 = .ok (.aload_n 0, 1) := by decide +kernel
theorem d_W_standAt_18 : decode b_W_standAt 18 = .ok (.aload_n 0, 1) := by decide +kernel
theorem d_W_standAt_19 : decode b_W_standAt 19 = .ok (.getfield 9, 3) := by decide +kernel
theorem d_W_standAt_22 : decode b_W_standAt 22 = .ok (.getfield 29, 3) := by decide +kernel
theorem d_W_standAt_25 : decode b_W_standAt 25 = .ok (.getfield 35, 3) := by decide +kernel
theorem d_W_standAt_28 : decode b_W_standAt 28 = .ok (.putfield 22, 3) := by decide +kernel
theorem d_W_standAt_31 : decode b_W_standAt 31 = .ok (.return_, 1) := by decide +kernel
theorem d_W_goOver_0 : decode b_W_goOver 0 = .ok (.aload_n 0, 1) := by decide +kernel
theorem d_W_goOver_1 : decode b_W_goOver 1 = .ok (.iload_n 2, 1) := by decide +kernel
theorem d_W_goOver_2 : decode b_W_goOver 2 = .ok (.ifCond .eq 9, 3) := by decide +kernel
theorem d_W_goOver_5 : decode b_W_goOver 5 = .ok (.iload_n 1, 1) := by decide +kernel
theorem d_W_goOver_6 : decode b_W_goOver 6 = .ok (.iconst 1, 1) := by decide +kernel
theorem d_W_goOver_7 : decode b_W_goOver 7 = .ok (.iadd, 1) := by decide +kernel
theorem d_W_goOver_8 : decode b_W_goOver 8 = .ok (.goto 4, 3) := by decide +kernel
theorem d_W_goOver_11 : decode b_W_goOver 11 = .ok (.iload_n 1, 1) := by decide +kernel
theorem d_W_goOver_12 : decode b_W_goOver 12 = .ok (.putfield 15, 3) := by decide +kernel
theorem d_W_goOver_15 : decode b_W_goOver 15 = .ok (.aload_n 0, 1) := by decide +kernel
theorem d_W_goOver_16 : decode b_W_goOver 16 = .ok (.iload_n 1, 1) := by decide +kernel
theorem d_W_goOver_17 : decode b_W_goOver 17 = .ok (.putfield 19, 3) := by decide +kernel
theorem d_W_goOver_20 : decode b_W_goOver 20 = .ok (.return_, 1) := by decide +kernel
theorem d_W_isStale_0 : decode b_W_isStale 0 = .ok (.aload_n 0, 1) := by decide +kernel
theorem d_W_isStale_1 : decode b_W_isStale 1 = .ok (.getfield 9, 3) := by decide +kernel
theorem d_W_isStale_4 : decode b_W_isStale 4 = .ok (.ifnull 30, 3) := by decide +kernel
theorem d_W_isStale_7 : decode b_W_isStale 7 = .ok (.aload_n 0, 1) := by decide +kernel
theorem d_W_isStale_8 : decode b_W_isStale 8 = .ok (.getfield 9, 3) := by decide +kernel
theorem d_W_isStale_11 : decode b_W_isStale 11 = .ok (.invokevirtual 40, 3) := by decide +kernel
theorem d_W_isStale_14 : decode b_W_isStale 14 = .ok (.ifCond .ne 20, 3) := by decide +kernel
theorem d_W_isStale_17 : decode b_W_isStale 17 = .ok (.aload_n 0, 1) := by decide +kernel
theorem d_W_isStale_18 : decode b_W_isStale 18 = .ok (.getfield 22, 3) := by decide +kernel
theorem d_W_isStale_21 : decode b_W_isStale 21 = .ok (.aload_n 0, 1) := by decide +kernel
theorem d_W_isStale_22 : decode b_W_isStale 22 = .ok (.getfield 9, 3) := by decide +kernel
theorem d_W_isStale_25 : decode b_W_isStale 25 = .ok (.getfield 29, 3) := by decide +kernel
theorem d_W_isStale_28 : decode b_W_isStale 28 = .ok (.getfield 35, 3) := by decide +kernel
theorem d_W_isStale_31 : decode b_W_isStale 31 = .ok (.if_icmp .eq 7, 3) := by decide +kernel
theorem d_W_isStale_34 : decode b_W_isStale 34 = .ok (.iconst 1, 1) := by decide +kernel
theorem d_W_isStale_35 : decode b_W_isStale 35 = .ok (.goto 4, 3) := by decide +kernel
theorem d_W_isStale_38 : decode b_W_isStale 38 = .ok (.iconst 0, 1) := by decide +kernel
theorem d_W_isStale_39 : decode b_W_isStale 39 = .ok (.ireturn, 1) := by decide +kernel
theorem d_G_init_0 : decode b_G_init 0 = .ok (.aload_n 0, 1) := by decide +kernel
theorem d_G_init_1 : decode b_G_init 1 = .ok (.iload_n 1, 1) := by decide +kernel
theorem d_G_init_2 : decode b_G_init 2 = .ok (.new 1, 3) := by decide +kernel
theorem d_G_init_5 : decode b_G_init 5 = .ok (.dup, 1) := by decide +kernel
theorem d_G_init_6 : decode b_G_init 6 = .ok (.iload_n 1, 1) := by decide +kernel
theorem d_G_init_7 : decode b_G_init 7 = .ok (.invokespecial 3, 3) := by decide +kernel
theorem d_G_init_10 : decode b_G_init 10 = .ok (.invokespecial 7, 3) := by decide +kernel
theorem d_G_init_13 : decode b_G_init 13 = .ok (.return_, 1) := by decide +kernel
theorem d_G_start_0 : decode b_G_start 0 = .ok (.iconst 0, 1) := by decide +kernel
theorem d_G_start_1 : decode b_G_start 1 = .ok (.ireturn, 1) := by decide +kernel
theorem d_G_count_0 : decode b_G_count 0 = .ok (.aload_n 0, 1) := by decide +kernel
theorem d_G_count_1 : decode b_G_count 1 = .ok (.getfield 12, 3) := by decide +kernel
theorem d_G_count_4 : decode b_G_count 4 = .ok (.getfield 18, 3) := by decide +kernel
theorem d_G_count_7 : decode b_G_count 7 = .ok (.ireturn, 1) := by decide +kernel
end
section
theorem d_K_init_0 : decode b_K_init 0 = .ok (.aload_n 0, 1) := by decide +kernel
theorem d_K_init_1 : decode b_K_init 1 = .ok (.invokespecial 1, 3) := by decide +kernel
theorem d_K_init_4 : decode b_K_init 4 = .ok (.aload_n 0, 1) := by decide +kernel
theorem d_K_init_5 : decode b_K_init 5 = .ok (.bipush 10, 2) := by decide +kernel
theorem d_K_init_7 : decode b_K_init 7 = .ok (.anewarray 9, 3) := by decide +kernel
theorem d_K_init_10 : decode b_K_init 10 = .ok (.putfield 11, 3) := by decide +kernel
theorem d_K_init_13 : decode b_K_init 13 = .ok (.aload_n 0, 1) := by decide +kernel
theorem d_K_init_14 : decode b_K_init 14 = .ok (.iconst 4, 1) := by decide +kernel
theorem d_K_init_15 : decode b_K_init 15 = .ok (.anewarray 15, 3) := by decide +kernel
theorem d_K_init_18 : decode b_K_init 18 = .ok (.putfield 17, 3) := by decide +kernel
theorem d_K_init_21 : decode b_K_init 21 = .ok (.aload_n 0, 1) := by decide +kernel
theorem d_K_init_22 : decode b_K_init 22 = .ok (.iconst 0, 1) := by decide +kernel
theorem d_K_init_23 : decode b_K_init 23 = .ok (.putfield 21, 3) := by decide +kernel
theorem d_K_init_26 : decode b_K_init 26 = .ok (.iconst 0, 1) := by decide +kernel
theorem d_K_init_27 : decode b_K_init 27 = .ok (.istore_n 1, 1) := by decide +kernel
theorem d_K_init_28 : decode b_K_init 28 = .ok (.iload_n 1, 1) := by decide +kernel
theorem d_K_init_29 : decode b_K_init 29 = .ok (.aload_n 0, 1) := by decide +kernel
theorem d_K_init_30 : decode b_K_init 30 = .ok (.getfield 17, 3) := by decide +kernel
theorem d_K_init_33 : decode b_K_init 33 = .ok (.arraylength, 1) := by decide +kernel
theorem d_K_init_34 : decode b_K_init 34 = .ok (.if_icmp .ge 22, 3) := by decide +kernel
theorem d_K_init_37 : decode b_K_init 37 = .ok (.aload_n 0, 1) := by decide +kernel
theorem d_K_init_38 : decode b_K_init 38 = .ok (.getfield 17, 3) := by decide +kernel
theorem d_K_init_41 : decode b_K_init 41 = .ok (.iload_n 1, 1) := by decide +kernel
theorem d_K_init_42 : decode b_K_init 42 = .ok (.new 15, 3) := by decide +kernel
theorem d_K_init_45 : decode b_K_init 45 = .ok (.dup, 1) := by decide +kernel
theorem d_K_init_46 : decode b_K_init 46 = .ok (.invokespecial 25, 3) := by decide +kernel
theorem d_K_init_49 : decode b_K_init 49 = .ok (.aastore, 1) := by decide +kernel
theorem d_K_init_50 : decode b_K_init 50 = .ok (.iinc 1 1, 3) := by decide +kernel
theorem d_K_init_53 : decode b_K_init 53 = .ok (.goto (-25), 3) := by decide +kernel
theorem d_K_init_56 : decode b_K_init 56 = .ok (.return_, 1) := by decide +kernel
theorem d_K_create_0 : decode b_K_create 0 = .ok (.iload_n 1, 1) := by decide +kernel
theorem d_K_create_1 : decode b_K_create 1 = .ok (.ifCond .lt 12, 3) := by decide +kernel
theorem d_K_create_4 : decode b_K_create 4 = .ok (.iload_n 1, 1) := by decide +kernel
theorem d_K_create_5 : decode b_K_create 5 = .ok (.iconst 5, 1) := by decide +kernel
theorem d_K_create_6 : decode b_K_create 6 = .ok (.if_icmp .gt 7, 3) := by decide +kernel
theorem d_K_create_9 : decode b_K_create 9 = .ok (.iconst 1, 1) := by decide +kernel
theorem d_K_create_10 : decode b_K_create 10 = .ok (.goto 4, 3) := by decide +kernel
theorem d_K_create_13 : decode b_K_create 13 = .ok (.iconst 0, 1) := by decide +kernel
theorem d_K_create_14 : decode b_K_create 14 = .ok (.invokestatic 26, 3) := by decide +kernel
theorem d_K_create_17 : decode b_K_create 17 = .ok (.aload_n 0, 1) := by decide +kernel
theorem d_K_create_18 : decode b_K_create 18 = .ok (.invokevirtual 30, 3) := by decide +kernel
theorem d_K_create_21 : decode b_K_create 21 = .ok (.aload_n 0, 1) := by decide +kernel
theorem d_K_create_22 : decode b_K_create 22 = .ok (.new 33, 3) := by decide +kernel
theorem d_K_create_25 : decode b_K_create 25 = .ok (.dup, 1) := by decide +kernel
theorem d_K_create_26 : decode b_K_create 26 = .ok (.iload_n 1, 1) := by decide +kernel
theorem d_K_create_27 : decode b_K_create 27 = .ok (.invokespecial 35, 3) := by decide +kernel
theorem d_K_create_30 : decode b_K_create 30 = .ok (.invokevirtual 38, 3) := by decide +kernel
theorem d_K_create_33 : decode b_K_create 33 = .ok (.ireturn, 1) := by decide +kernel
theorem d_K_view_0 : decode b_K_view 0 = .ok (.aload_n 0, 1) := by decide +kernel
theorem d_K_view_1 : decode b_K_view 1 = .ok (.iload_n 1, 1) := by decide +kernel
theorem d_K_view_2 : decode b_K_view 2 = .ok (.invokevirtual 42, 3) := by decide +kernel
theorem d_K_view_5 : decode b_K_view 5 = .ok (.astore 4, 2) := by decide +kernel
theorem d_K_view_7 : decode b_K_view 7 = .ok (.aload 4, 2) := by decide +kernel
theorem d_K_view_9 : decode b_K_view 9 = .ok (.invokevirtual 46, 3) := by decide +kernel
theorem d_K_view_12 : decode b_K_view 12 = .ok (.ifCond .ne 11, 3) := by decide +kernel
theorem d_K_view_15 : decode b_K_view 15 = .ok (.aload 4, 2) := by decide +kernel
theorem d_K_view_17 : decode b_K_view 17 = .ok (.invokevirtual 50, 3) := by decide +kernel
theorem d_K_view_20 : decode b_K_view 20 = .ok (.ifCond .eq 7, 3) := by decide +kernel
theorem d_K_view_23 : decode b_K_view 23 = .ok (.iconst 1, 1) := by decide +kernel
theorem d_K_view_24 : decode b_K_view 24 = .ok (.goto 4, 3) := by decide +kernel
theorem d_K_view_27 : decode b_K_view 27 = .ok (.iconst 0, 1) := by decide +kernel
theorem d_K_view_28 : decode b_K_view 28 = .ok (.invokestatic 53, 3) := by decide +kernel
theorem d_K_view_31 : decode b_K_view 31 = .ok (.aload 4, 2) := by decide +kernel
theorem d_K_view_33 : decode b_K_view 33 = .ok (.invokestatic 56, 3) := by decide +kernel
theorem d_K_view_36 : decode b_K_view 36 = .ok (.iload_n 2, 1) := by decide +kernel
theorem d_K_view_37 : decode b_K_view 37 = .ok (.iload_n 3, 1) := by decide +kernel
theorem d_K_view_38 : decode b_K_view 38 = .ok (.if_icmp .gt 28, 3) := by decide +kernel
theorem d_K_view_41 : decode b_K_view 41 = .ok (.aload 4, 2) := by decide +kernel
theorem d_K_view_43 : decode b_K_view 43 = .ok (.invokevirtual 50, 3) := by decide +kernel
theorem d_K_view_46 : decode b_K_view 46 = .ok (.ifCond .ne 16, 3) := by decide +kernel
theorem d_K_view_49 : decode b_K_view 49 = .ok (.iload_n 2, 1) := by decide +kernel
theorem d_K_view_50 : decode b_K_view 50 = .ok (.ifCond .lt 16, 3) := by decide +kernel
theorem d_K_view_53 : decode b_K_view 53 = .ok (.iload_n 3, 1) := by decide +kernel
theorem d_K_view_54 : decode b_K_view 54 = .ok (.aload 4, 2) := by decide +kernel
theorem d_K_view_56 : decode b_K_view 56 = .ok (.invokevirtual 60, 3) := by decide +kernel
theorem d_K_view_59 : decode b_K_view 59 = .ok (.if_icmp .gt 7, 3) := by decide +kernel
theorem d_K_view_62 : decode b_K_view 62 = .ok (.iconst 1, 1) := by decide +kernel
theorem d_K_view_63 : decode b_K_view 63 = .ok (.goto 4, 3) := by decide +kernel
theorem d_K_view_66 : decode b_K_view 66 = .ok (.iconst 0, 1) := by decide +kernel
theorem d_K_view_67 : decode b_K_view 67 = .ok (.invokestatic 26, 3) := by decide +kernel
theorem d_K_view_70 : decode b_K_view 70 = .ok (.aload_n 0, 1) := by decide +kernel
theorem d_K_view_71 : decode b_K_view 71 = .ok (.invokevirtual 30, 3) := by decide +kernel
theorem d_K_view_74 : decode b_K_view 74 = .ok (.aload_n 0, 1) := by decide +kernel
theorem d_K_view_75 : decode b_K_view 75 = .ok (.aload 4, 2) := by decide +kernel
theorem d_K_view_77 : decode b_K_view 77 = .ok (.invokevirtual 50, 3) := by decide +kernel
theorem d_K_view_80 : decode b_K_view 80 = .ok (.ifCond .eq 13, 3) := by decide +kernel
theorem d_K_view_83 : decode b_K_view 83 = .ok (.aload 4, 2) := by decide +kernel
theorem d_K_view_85 : decode b_K_view 85 = .ok (.iload_n 2, 1) := by decide +kernel
theorem d_K_view_86 : decode b_K_view 86 = .ok (.iload_n 3, 1) := by decide +kernel
theorem d_K_view_87 : decode b_K_view 87 = .ok (.invokestatic 64, 3) := by decide +kernel
theorem d_K_view_90 : decode b_K_view 90 = .ok (.goto 10, 3) := by decide +kernel
theorem d_K_view_93 : decode b_K_view 93 = .ok (.aload 4, 2) := by decide +kernel
theorem d_K_view_95 : decode b_K_view 95 = .ok (.iload_n 2, 1) := by decide +kernel
theorem d_K_view_96 : decode b_K_view 96 = .ok (.iload_n 3, 1) := by decide +kernel
theorem d_K_view_97 : decode b_K_view 97 = .ok (.invokestatic 68, 3) := by decide +kernel
theorem d_K_view_100 : decode b_K_view 100 = .ok (.invokevirtual 38, 3) := by decide +kernel
theorem d_K_view_103 : decode b_K_view 103 = .ok (.ireturn, 1) := by decide +kernel
theorem d_K_kind_0 : decode b_K_kind 0 = .ok (.aload_n 0, 1) := by decide +kernel
theorem d_K_kind_1 : decode b_K_kind 1 = .ok (.iload_n 1, 1) := by decide +kernel
theorem d_K_kind_2 : decode b_K_kind 2 = .ok (.invokevirtual 42, 3) := by decide +kernel
theorem d_K_kind_5 : decode b_K_kind 5 = .ok (.getfield 71, 3) := by decide +kernel
theorem d_K_kind_8 : decode b_K_kind 8 = .ok (.ireturn, 1) := by decide +kernel
theorem d_K_size_0 : decode b_K_size 0 = .ok (.aload_n 0, 1) := by decide +kernel
theorem d_K_size_1 : decode b_K_size 1 = .ok (.iload_n 1, 1) := by decide +kernel
theorem d_K_size_2 : decode b_K_size 2 = .ok (.invokevirtual 42, 3) := by decide +kernel
theorem d_K_size_5 : decode b_K_size 5 = .ok (.astore_n 2, 1) := by decide +kernel
theorem d_K_size_6 : decode b_K_size 6 = .ok (.aload_n 2, 1) := by decide +kernel
theorem d_K_size_7 : decode b_K_size 7 = .ok (.invokestatic 56, 3) := by decide +kernel
theorem d_K_size_10 : decode b_K_size 10 = .ok (.aload_n 2, 1) := by decide +kernel
theorem d_K_size_11 : decode b_K_size 11 = .ok (.invokevirtual 60, 3) := by decide +kernel
theorem d_K_size_14 : decode b_K_size 14 = .ok (.ireturn, 1) := by decide +kernel
theorem d_K_get_0 : decode b_K_get 0 = .ok (.aload_n 0, 1) := by decide +kernel
theorem d_K_get_1 : decode b_K_get 1 = .ok (.iload_n 1, 1) := by decide +kernel
theorem d_K_get_2 : decode b_K_get 2 = .ok (.invokevirtual 74, 3) := by decide +kernel
theorem d_K_get_5 : decode b_K_get 5 = .ok (.astore_n 3, 1) := by decide +kernel
theorem d_K_get_6 : decode b_K_get 6 = .ok (.aload_n 3, 1) := by decide +kernel
theorem d_K_get_7 : decode b_K_get 7 = .ok (.iload_n 2, 1) := by decide +kernel
theorem d_K_get_8 : decode b_K_get 8 = .ok (.invokevirtual 77, 3) := by decide +kernel
theorem d_K_get_11 : decode b_K_get 11 = .ok (.invokestatic 81, 3) := by decide +kernel
theorem d_K_get_14 : decode b_K_get 14 = .ok (.aload_n 3, 1) := by decide +kernel
theorem d_K_get_15 : decode b_K_get 15 = .ok (.iload_n 2, 1) := by decide +kernel
theorem d_K_get_16 : decode b_K_get 16 = .ok (.invokevirtual 84, 3) := by decide +kernel
theorem d_K_get_19 : decode b_K_get 19 = .ok (.ireturn, 1) := by decide +kernel
theorem d_K_set_0 : decode b_K_set 0 = .ok (.aload_n 0, 1) := by decide +kernel
theorem d_K_set_1 : decode b_K_set 1 = .ok (.iload_n 1, 1) := by decide +kernel
theorem d_K_set_2 : decode b_K_set 2 = .ok (.invokevirtual 74, 3) := by decide +kernel
theorem d_K_set_5 : decode b_K_set 5 = .ok (.astore 4, 2) := by decide +kernel
theorem d_K_set_7 : decode b_K_set 7 = .ok (.aload 4, 2) := by decide +kernel
theorem d_K_set_9 : decode b_K_set 9 = .ok (.iload_n 2, 1) := by decide +kernel
theorem d_K_set_10 : decode b_K_set 10 = .ok (.invokevirtual 77, 3) := by decide +kernel
theorem d_K_set_13 : decode b_K_set 13 = .ok (.invokestatic 81, 3) := by decide +kernel
theorem d_K_set_16 : decode b_K_set 16 = .ok (.aload 4, 2) := by decide +kernel
theorem d_K_set_18 : decode b_K_set 18 = .ok (.iload_n 2, 1) := by decide +kernel
theorem d_K_set_19 : decode b_K_set 19 = .ok (.iload_n 3, 1) := by decide +kernel
theorem d_K_set_20 : decode b_K_set 20 = .ok (.invokevirtual 88, 3) := by decide +kernel
theorem d_K_set_23 : decode b_K_set 23 = .ok (.ireturn, 1) := by decide +kernel
theorem d_K_insert_0 : decode b_K_insert 0 = .ok (.aload_n 0, 1) := by decide +kernel
theorem d_K_insert_1 : decode b_K_insert 1 = .ok (.iload_n 1, 1) := by decide +kernel
theorem d_K_insert_2 : decode b_K_insert 2 = .ok (.invokevirtual 92, 3) := by decide +kernel
theorem d_K_insert_5 : decode b_K_insert 5 = .ok (.astore 4, 2) := by decide +kernel
theorem d_K_insert_7 : decode b_K_insert 7 = .ok (.aload 4, 2) := by decide +kernel
theorem d_K_insert_9 : decode b_K_insert 9 = .ok (.getfield 71, 3) := by decide +kernel
theorem d_K_insert_12 : decode b_K_insert 12 = .ok (.iconst 5, 1) := by decide +kernel
theorem d_K_insert_13 : decode b_K_insert 13 = .ok (.if_icmp .ne 7, 3) := by decide +kernel
theorem d_K_insert_16 : decode b_K_insert 16 = .ok (.iconst 1, 1) := by decide +kernel
theorem d_K_insert_17 : decode b_K_insert 17 = .ok (.goto 4, 3) := by decide +kernel
theorem d_K_insert_20 : decode b_K_insert 20 = .ok (.iconst 0, 1) := by decide +kernel
theorem d_K_insert_21 : decode b_K_insert 21 = .ok (.istore 5, 2) := by decide +kernel
theorem d_K_insert_23 : decode b_K_insert 23 = .ok (.iload 5, 2) := by decide +kernel
theorem d_K_insert_25 : decode b_K_insert 25 = .ok (.ifCond .ne 16, 3) := by decide +kernel
theorem d_K_insert_28 : decode b_K_insert 28 = .ok (.iload_n 2, 1) := by decide +kernel
theorem d_K_insert_29 : decode b_K_insert 29 = .ok (.ifCond .lt 16, 3) := by decide +kernel
theorem d_K_insert_32 : decode b_K_insert 32 = .ok (.iload_n 2, 1) := by decide +kernel
theorem d_K_insert_33 : decode b_K_insert 33 = .ok (.aload 4, 2) := by decide +kernel
theorem d_K_insert_35 : decode b_K_insert 35 = .ok (.invokevirtual 60, 3) := by decide +kernel
theorem d_K_insert_38 : decode b_K_insert 38 = .ok (.if_icmp .gt 7, 3) := by decide +kernel
theorem d_K_insert_41 : decode b_K_insert 41 = .ok (.iconst 1, 1) := by decide +kernel
theorem d_K_insert_42 : decode b_K_insert 42 = .ok (.goto 4, 3) := by decide +kernel
theorem d_K_insert_45 : decode b_K_insert 45 = .ok (.iconst 0, 1) := by decide +kernel
theorem d_K_insert_46 : decode b_K_insert 46 = .ok (.invokestatic 81, 3) := by decide +kernel
theorem d_K_insert_49 : decode b_K_insert 49 = .ok (.aload 4, 2) := by decide +kernel
theorem d_K_insert_51 : decode b_K_insert 51 = .ok (.getfield 95, 3) := by decide +kernel
theorem d_K_insert_54 : decode b_K_insert 54 = .ok (.invokestatic 99, 3) := by decide +kernel
theorem d_K_insert_57 : decode b_K_insert 57 = .ok (.aload 4, 2) := by decide +kernel
theorem d_K_insert_59 : decode b_K_insert 59 = .ok (.iload 5, 2) := by decide +kernel
theorem d_K_insert_61 : decode b_K_insert 61 = .ok (.ifCond .eq 16, 3) := by decide +kernel
theorem d_K_insert_64 : decode b_K_insert 64 = .ok (.aload 4, 2) := by decide +kernel
theorem d_K_insert_66 : decode b_K_insert 66 = .ok (.getfield 95, 3) := by decide +kernel
theorem d_K_insert_69 : decode b_K_insert 69 = .ok (.iload_n 3, 1) := by decide +kernel
theorem d_K_insert_70 : decode b_K_insert 70 = .ok (.iconst 1, 1) := by decide +kernel
theorem d_K_insert_71 : decode b_K_insert 71 = .ok (.invokevirtual 103, 3) := by decide +kernel
theorem d_K_insert_74 : decode b_K_insert 74 = .ok (.goto 4, 3) := by decide +kernel
theorem d_K_insert_77 : decode b_K_insert 77 = .ok (.iload_n 2, 1) := by decide +kernel
theorem d_K_insert_78 : decode b_K_insert 78 = .ok (.iload_n 3, 1) := by decide +kernel
theorem d_K_insert_79 : decode b_K_insert 79 = .ok (.invokevirtual 109, 3) := by decide +kernel
theorem d_K_insert_82 : decode b_K_insert 82 = .ok (.return_, 1) := by decide +kernel
theorem d_K_remove_0 : decode b_K_remove 0 = .ok (.aload_n 0, 1) := by decide +kernel
theorem d_K_remove_1 : decode b_K_remove 1 = .ok (.iload_n 1, 1) := by decide +kernel
theorem d_K_remove_2 : decode b_K_remove 2 = .ok (.invokevirtual 92, 3) := by decide +kernel
theorem d_K_remove_5 : decode b_K_remove 5 = .ok (.astore_n 3, 1) := by decide +kernel
theorem d_K_remove_6 : decode b_K_remove 6 = .ok (.aload_n 3, 1) := by decide +kernel
theorem d_K_remove_7 : decode b_K_remove 7 = .ok (.getfield 71, 3) := by decide +kernel
theorem d_K_remove_10 : decode b_K_remove 10 = .ok (.iconst 5, 1) := by decide +kernel
theorem d_K_remove_11 : decode b_K_remove 11 = .ok (.if_icmp .ne 7, 3) := by decide +kernel
theorem d_K_remove_14 : decode b_K_remove 14 = .ok (.iconst 0, 1) := by decide +kernel
theorem d_K_remove_15 : decode b_K_remove 15 = .ok (.goto 4, 3) := by decide +kernel
theorem d_K_remove_18 : decode b_K_remove 18 = .ok (.iload_n 2, 1) := by decide +kernel
theorem d_K_remove_19 : decode b_K_remove 19 = .ok (.istore 4, 2) := by decide +kernel
theorem d_K_remove_21 : decode b_K_remove 21 = .ok (.aload_n 3, 1) := by decide +kernel
theorem d_K_remove_22 : decode b_K_remove 22 = .ok (.iload 4, 2) := by decide +kernel
theorem d_K_remove_24 : decode b_K_remove 24 = .ok (.invokevirtual 77, 3) := by decide +kernel
theorem d_K_remove_27 : decode b_K_remove 27 = .ok (.invokestatic 81, 3) := by decide +kernel
theorem d_K_remove_30 : decode b_K_remove 30 = .ok (.aload_n 3, 1) := by decide +kernel
theorem d_K_remove_31 : decode b_K_remove 31 = .ok (.iload 4, 2) := by decide +kernel
theorem d_K_remove_33 : decode b_K_remove 33 = .ok (.invokevirtual 113, 3) := by decide +kernel
theorem d_K_remove_36 : decode b_K_remove 36 = .ok (.ireturn, 1) := by decide +kernel
theorem d_K_sort_0 : decode b_K_sort 0 = .ok (.aload_n 0, 1) := by decide +kernel
theorem d_K_sort_1 : decode b_K_sort 1 = .ok (.iload_n 1, 1) := by decide +kernel
theorem d_K_sort_2 : decode b_K_sort 2 = .ok (.invokevirtual 74, 3) := by decide +kernel
theorem d_K_sort_5 : decode b_K_sort 5 = .ok (.astore_n 3, 1) := by decide +kernel
theorem d_K_sort_6 : decode b_K_sort 6 = .ok (.iload_n 2, 1) := by decide +kernel
theorem d_K_sort_7 : decode b_K_sort 7 = .ok (.ifCond .lt 12, 3) := by decide +kernel
theorem d_K_sort_10 : decode b_K_sort 10 = .ok (.iload_n 2, 1) := by decide +kernel
theorem d_K_sort_11 : decode b_K_sort 11 = .ok (.iconst 2, 1) := by decide +kernel
theorem d_K_sort_12 : decode b_K_sort 12 = .ok (.if_icmp .gt 7, 3) := by decide +kernel
theorem d_K_sort_15 : decode b_K_sort 15 = .ok (.iconst 1, 1) := by decide +kernel
theorem d_K_sort_16 : decode b_K_sort 16 = .ok (.goto 4, 3) := by decide +kernel
theorem d_K_sort_19 : decode b_K_sort 19 = .ok (.iconst 0, 1) := by decide +kernel
theorem d_K_sort_20 : decode b_K_sort 20 = .ok (.invokestatic 26, 3) := by decide +kernel
theorem d_K_sort_23 : decode b_K_sort 23 = .ok (.aload_n 3, 1) := by decide +kernel
theorem d_K_sort_24 : decode b_K_sort 24 = .ok (.iload_n 2, 1) := by decide +kernel
theorem d_K_sort_25 : decode b_K_sort 25 = .ok (.invokevirtual 116, 3) := by decide +kernel
theorem d_K_sort_28 : decode b_K_sort 28 = .ok (.return_, 1) := by decide +kernel
theorem d_K_put_0 : decode b_K_put 0 = .ok (.aload_n 0, 1) := by decide +kernel
theorem d_K_put_1 : decode b_K_put 1 = .ok (.iload_n 1, 1) := by decide +kernel
theorem d_K_put_2 : decode b_K_put 2 = .ok (.invokevirtual 119, 3) := by decide +kernel
theorem d_K_put_5 : decode b_K_put 5 = .ok (.astore 4, 2) := by decide +kernel
theorem d_K_put_7 : decode b_K_put 7 = .ok (.aload 4, 2) := by decide +kernel
theorem d_K_put_9 : decode b_K_put 9 = .ok (.iload_n 2, 1) := by decide +kernel
theorem d_K_put_10 : decode b_K_put 10 = .ok (.invokestatic 122, 3) := by decide +kernel
theorem d_K_put_13 : decode b_K_put 13 = .ok (.aload 4, 2) := by decide +kernel
theorem d_K_put_15 : decode b_K_put 15 = .ok (.iload_n 2, 1) := by decide +kernel
theorem d_K_put_16 : decode b_K_put 16 = .ok (.invokevirtual 126, 3) := by decide +kernel
theorem d_K_put_19 : decode b_K_put 19 = .ok (.iconst (-1), 1) := by decide +kernel
theorem d_K_put_20 : decode b_K_put 20 = .ok (.if_icmp .ne 7, 3) := by decide +kernel
theorem d_K_put_23 : decode b_K_put 23 = .ok (.iconst 1, 1) := by decide +kernel
theorem d_K_put_24 : decode b_K_put 24 = .ok (.goto 4, 3) := by decide +kernel
theorem d_K_put_27 : decode b_K_put 27 = .ok (.iconst 0, 1) := by decide +kernel
theorem d_K_put_28 : decode b_K_put 28 = .ok (.istore 5, 2) := by decide +kernel
theorem d_K_put_30 : decode b_K_put 30 = .ok (.aload 4, 2) := by decide +kernel
theorem d_K_put_32 : decode b_K_put 32 = .ok (.getfield 95, 3) := by decide +kernel
theorem d_K_put_35 : decode b_K_put 35 = .ok (.iload_n 2, 1) := by decide +kernel
theorem d_K_put_36 : decode b_K_put 36 = .ok (.iload_n 3, 1) := by decide +kernel
theorem d_K_put_37 : decode b_K_put 37 = .ok (.invokevirtual 129, 3) := by decide +kernel
theorem d_K_put_40 : decode b_K_put 40 = .ok (.iload 5, 2) := by decide +kernel
theorem d_K_put_42 : decode b_K_put 42 = .ok (.ireturn, 1) := by decide +kernel
theorem d_K_merge_0 : decode b_K_merge 0 = .ok (.aload_n 0, 1) := by decide +kernel
theorem d_K_merge_1 : decode b_K_merge 1 = .ok (.iload_n 1, 1) := by decide +kernel
theorem d_K_merge_2 : decode b_K_merge 2 = .ok (.invokevirtual 119, 3) := by decide +kernel
theorem d_K_merge_5 : decode b_K_merge 5 = .ok (.astore 4, 2) := by decide +kernel
theorem d_K_merge_7 : decode b_K_merge 7 = .ok (.aload 4, 2) := by decide +kernel
theorem d_K_merge_9 : decode b_K_merge 9 = .ok (.iload_n 2, 1) := by decide +kernel
theorem d_K_merge_10 : decode b_K_merge 10 = .ok (.invokestatic 122, 3) := by decide +kernel
theorem d_K_merge_13 : decode b_K_merge 13 = .ok (.aload 4, 2) := by decide +kernel
theorem d_K_merge_15 : decode b_K_merge 15 = .ok (.iload_n 2, 1) := by decide +kernel
theorem d_K_merge_16 : decode b_K_merge 16 = .ok (.invokevirtual 126, 3) := by decide +kernel
theorem d_K_merge_19 : decode b_K_merge 19 = .ok (.istore 5, 2) := by decide +kernel
theorem d_K_merge_21 : decode b_K_merge 21 = .ok (.iload 5, 2) := by decide +kernel
theorem d_K_merge_23 : decode b_K_merge 23 = .ok (.iconst (-1), 1) := by decide +kernel
theorem d_K_merge_24 : decode b_K_merge 24 = .ok (.if_icmp .ne 7, 3) := by decide +kernel
theorem d_K_merge_27 : decode b_K_merge 27 = .ok (.iload_n 3, 1) := by decide +kernel
theorem d_K_merge_28 : decode b_K_merge 28 = .ok (.goto 12, 3) := by decide +kernel
theorem d_K_merge_31 : decode b_K_merge 31 = .ok (.aload 4, 2) := by decide +kernel
theorem d_K_merge_33 : decode b_K_merge 33 = .ok (.iload 5, 2) := by decide +kernel
theorem d_K_merge_35 : decode b_K_merge 35 = .ok (.invokevirtual 132, 3) := by decide +kernel
theorem d_K_merge_38 : decode b_K_merge 38 = .ok (.iload_n 3, 1) := by decide +kernel
theorem d_K_merge_39 : decode b_K_merge 39 = .ok (.iadd, 1) := by decide +kernel
theorem d_K_merge_40 : decode b_K_merge 40 = .ok (.istore 6, 2) := by decide +kernel
theorem d_K_merge_42 : decode b_K_merge 42 = .ok (.aload 4, 2) := by decide +kernel
theorem d_K_merge_44 : decode b_K_merge 44 = .ok (.getfield 95, 3) := by decide +kernel
theorem d_K_merge_47 : decode b_K_merge 47 = .ok (.iload_n 2, 1) := by decide +kernel
theorem d_K_merge_48 : decode b_K_merge 48 = .ok (.iload 6, 2) := by decide +kernel
theorem d_K_merge_50 : decode b_K_merge 50 = .ok (.invokevirtual 129, 3) := by decide +kernel
theorem d_K_merge_53 : decode b_K_merge 53 = .ok (.iload 6, 2) := by decide +kernel
theorem d_K_merge_55 : decode b_K_merge 55 = .ok (.ireturn, 1) := by decide +kernel
theorem d_K_has_0 : decode b_K_has 0 = .ok (.aload_n 0, 1) := by decide +kernel
theorem d_K_has_1 : decode b_K_has 1 = .ok (.iload_n 1, 1) := by decide +kernel
theorem d_K_has_2 : decode b_K_has 2 = .ok (.invokevirtual 119, 3) := by decide +kernel
theorem d_K_has_5 : decode b_K_has 5 = .ok (.iload_n 2, 1) := by decide +kernel
theorem d_K_has_6 : decode b_K_has 6 = .ok (.invokevirtual 126, 3) := by decide +kernel
theorem d_K_has_9 : decode b_K_has 9 = .ok (.iconst (-1), 1) := by decide +kernel
theorem d_K_has_10 : decode b_K_has 10 = .ok (.if_icmp .eq 7, 3) := by decide +kernel
theorem d_K_has_13 : decode b_K_has 13 = .ok (.iconst 1, 1) := by decide +kernel
theorem d_K_has_14 : decode b_K_has 14 = .ok (.goto 4, 3) := by decide +kernel
theorem d_K_has_17 : decode b_K_has 17 = .ok (.iconst 0, 1) := by decide +kernel
theorem d_K_has_18 : decode b_K_has 18 = .ok (.ireturn, 1) := by decide +kernel
theorem d_K_value_0 : decode b_K_value 0 = .ok (.aload_n 0, 1) := by decide +kernel
theorem d_K_value_1 : decode b_K_value 1 = .ok (.iload_n 1, 1) := by decide +kernel
theorem d_K_value_2 : decode b_K_value 2 = .ok (.invokevirtual 119, 3) := by decide +kernel
theorem d_K_value_5 : decode b_K_value 5 = .ok (.astore_n 3, 1) := by decide +kernel
theorem d_K_value_6 : decode b_K_value 6 = .ok (.aload_n 3, 1) := by decide +kernel
theorem d_K_value_7 : decode b_K_value 7 = .ok (.iload_n 2, 1) := by decide +kernel
theorem d_K_value_8 : decode b_K_value 8 = .ok (.invokevirtual 126, 3) := by decide +kernel
theorem d_K_value_11 : decode b_K_value 11 = .ok (.istore 4, 2) := by decide +kernel
theorem d_K_value_13 : decode b_K_value 13 = .ok (.iload 4, 2) := by decide +kernel
theorem d_K_value_15 : decode b_K_value 15 = .ok (.iconst (-1), 1) := by decide +kernel
theorem d_K_value_16 : decode b_K_value 16 = .ok (.if_icmp .eq 7, 3) := by decide +kernel
theorem d_K_value_19 : decode b_K_value 19 = .ok (.iconst 1, 1) := by decide +kernel
theorem d_K_value_20 : decode b_K_value 20 = .ok (.goto 4, 3) := by decide +kernel
theorem d_K_value_23 : decode b_K_value 23 = .ok (.iconst 0, 1) := by decide +kernel
theorem d_K_value_24 : decode b_K_value 24 = .ok (.invokestatic 81, 3) := by decide +kernel
theorem d_K_value_27 : decode b_K_value 27 = .ok (.aload_n 3, 1) := by decide +kernel
theorem d_K_value_28 : decode b_K_value 28 = .ok (.iload 4, 2) := by decide +kernel
theorem d_K_value_30 : decode b_K_value 30 = .ok (.invokevirtual 132, 3) := by decide +kernel
theorem d_K_value_33 : decode b_K_value 33 = .ok (.istore 5, 2) := by decide +kernel
theorem d_K_value_35 : decode b_K_value 35 = .ok (.aload_n 3, 1) := by decide +kernel
theorem d_K_value_36 : decode b_K_value 36 = .ok (.getfield 95, 3) := by decide +kernel
theorem d_K_value_39 : decode b_K_value 39 = .ok (.iload_n 2, 1) := by decide +kernel
theorem d_K_value_40 : decode b_K_value 40 = .ok (.invokevirtual 135, 3) := by decide +kernel
theorem d_K_value_43 : decode b_K_value 43 = .ok (.iload 5, 2) := by decide +kernel
theorem d_K_value_45 : decode b_K_value 45 = .ok (.ireturn, 1) := by decide +kernel
theorem d_K_drop_0 : decode b_K_drop 0 = .ok (.aload_n 0, 1) := by decide +kernel
theorem d_K_drop_1 : decode b_K_drop 1 = .ok (.iload_n 1, 1) := by decide +kernel
theorem d_K_drop_2 : decode b_K_drop 2 = .ok (.invokevirtual 119, 3) := by decide +kernel
theorem d_K_drop_5 : decode b_K_drop 5 = .ok (.astore_n 3, 1) := by decide +kernel
theorem d_K_drop_6 : decode b_K_drop 6 = .ok (.aload_n 3, 1) := by decide +kernel
theorem d_K_drop_7 : decode b_K_drop 7 = .ok (.iload_n 2, 1) := by decide +kernel
theorem d_K_drop_8 : decode b_K_drop 8 = .ok (.invokevirtual 126, 3) := by decide +kernel
theorem d_K_drop_11 : decode b_K_drop 11 = .ok (.istore 4, 2) := by decide +kernel
theorem d_K_drop_13 : decode b_K_drop 13 = .ok (.iload 4, 2) := by decide +kernel
theorem d_K_drop_15 : decode b_K_drop 15 = .ok (.iconst (-1), 1) := by decide +kernel
theorem d_K_drop_16 : decode b_K_drop 16 = .ok (.if_icmp .eq 7, 3) := by decide +kernel
theorem d_K_drop_19 : decode b_K_drop 19 = .ok (.iconst 1, 1) := by decide +kernel
theorem d_K_drop_20 : decode b_K_drop 20 = .ok (.goto 4, 3) := by decide +kernel
theorem d_K_drop_23 : decode b_K_drop 23 = .ok (.iconst 0, 1) := by decide +kernel
theorem d_K_drop_24 : decode b_K_drop 24 = .ok (.invokestatic 81, 3) := by decide +kernel
theorem d_K_drop_27 : decode b_K_drop 27 = .ok (.aload_n 3, 1) := by decide +kernel
theorem d_K_drop_28 : decode b_K_drop 28 = .ok (.iload 4, 2) := by decide +kernel
theorem d_K_drop_30 : decode b_K_drop 30 = .ok (.invokevirtual 132, 3) := by decide +kernel
theorem d_K_drop_33 : decode b_K_drop 33 = .ok (.istore 5, 2) := by decide +kernel
theorem d_K_drop_35 : decode b_K_drop 35 = .ok (.aload_n 3, 1) := by decide +kernel
theorem d_K_drop_36 : decode b_K_drop 36 = .ok (.iload 4, 2) := by decide +kernel
theorem d_K_drop_38 : decode b_K_drop 38 = .ok (.invokevirtual 113, 3) := by decide +kernel
theorem d_K_drop_41 : decode b_K_drop 41 = .ok (.pop, 1) := by decide +kernel
theorem d_K_drop_42 : decode b_K_drop 42 = .ok (.iload 5, 2) := by decide +kernel
theorem d_K_drop_44 : decode b_K_drop 44 = .ok (.ireturn, 1) := by decide +kernel
theorem d_K_near_0 : decode b_K_near 0 = .ok (.aload_n 0, 1) := by decide +kernel
theorem d_K_near_1 : decode b_K_near 1 = .ok (.iload_n 1, 1) := by decide +kernel
theorem d_K_near_2 : decode b_K_near 2 = .ok (.invokevirtual 42, 3) := by decide +kernel
theorem d_K_near_5 : decode b_K_near 5 = .ok (.astore 4, 2) := by decide +kernel
theorem d_K_near_7 : decode b_K_near 7 = .ok (.aload 4, 2) := by decide +kernel
theorem d_K_near_9 : decode b_K_near 9 = .ok (.invokevirtual 50, 3) := by decide +kernel
theorem d_K_near_12 : decode b_K_near 12 = .ok (.invokestatic 53, 3) := by decide +kernel
theorem d_K_near_15 : decode b_K_near 15 = .ok (.iload_n 3, 1) := by decide +kernel
theorem d_K_near_16 : decode b_K_near 16 = .ok (.ifCond .lt 12, 3) := by decide +kernel
theorem d_K_near_19 : decode b_K_near 19 = .ok (.iload_n 3, 1) := by decide +kernel
theorem d_K_near_20 : decode b_K_near 20 = .ok (.iconst 3, 1) := by decide +kernel
theorem d_K_near_21 : decode b_K_near 21 = .ok (.if_icmp .gt 7, 3) := by decide +kernel
theorem d_K_near_24 : decode b_K_near 24 = .ok (.iconst 1, 1) := by decide +kernel
theorem d_K_near_25 : decode b_K_near 25 = .ok (.goto 4, 3) := by decide +kernel
theorem d_K_near_28 : decode b_K_near 28 = .ok (.iconst 0, 1) := by decide +kernel
theorem d_K_near_29 : decode b_K_near 29 = .ok (.invokestatic 26, 3) := by decide +kernel
theorem d_K_near_32 : decode b_K_near 32 = .ok (.iload_n 3, 1) := by decide +kernel
theorem d_K_near_33 : decode b_K_near 33 = .ok (.iconst 1, 1) := by decide +kernel
theorem d_K_near_34 : decode b_K_near 34 = .ok (.if_icmp .eq 8, 3) := by decide +kernel
theorem d_K_near_37 : decode b_K_near 37 = .ok (.iload_n 3, 1) := by decide +kernel
theorem d_K_near_38 : decode b_K_near 38 = .ok (.iconst 3, 1) := by decide +kernel
theorem d_K_near_39 : decode b_K_near 39 = .ok (.if_icmp .ne 7, 3) := by decide +kernel
theorem d_K_near_42 : decode b_K_near 42 = .ok (.iconst 1, 1) := by decide +kernel
theorem d_K_near_43 : decode b_K_near 43 = .ok (.goto 4, 3) := by decide +kernel
theorem d_K_near_46 : decode b_K_near 46 = .ok (.iconst 0, 1) := by decide +kernel
theorem d_K_near_47 : decode b_K_near 47 = .ok (.istore 5, 2) := by decide +kernel
theorem d_K_near_49 : decode b_K_near 49 = .ok (.aload 4, 2) := by decide +kernel
theorem d_K_near_51 : decode b_K_near 51 = .ok (.iload_n 2, 1) := by decide +kernel
theorem d_K_near_52 : decode b_K_near 52 = .ok (.iload 5, 2) := by decide +kernel
theorem d_K_near_54 : decode b_K_near 54 = .ok (.invokevirtual 138, 3) := by decide +kernel
theorem d_K_near_57 : decode b_K_near 57 = .ok (.istore 6, 2) := by decide +kernel
theorem d_K_near_59 : decode b_K_near 59 = .ok (.iload_n 3, 1) := by decide +kernel
theorem d_K_near_60 : decode b_K_near 60 = .ok (.iconst 1, 1) := by decide +kernel
theorem d_K_near_61 : decode b_K_near 61 = .ok (.if_icmp .gt 10, 3) := by decide +kernel
theorem d_K_near_64 : decode b_K_near 64 = .ok (.iload 6, 2) := by decide +kernel
theorem d_K_near_66 : decode b_K_near 66 = .ok (.iconst 1, 1) := by decide +kernel
theorem d_K_near_67 : decode b_K_near 67 = .ok (.isub, 1) := by decide +kernel
theorem d_K_near_68 : decode b_K_near 68 = .ok (.goto 5, 3) := by decide +kernel
theorem d_K_near_71 : decode b_K_near 71 = .ok (.iload 6, 2) := by decide +kernel
theorem d_K_near_73 : decode b_K_near 73 = .ok (.istore 7, 2) := by decide +kernel
theorem d_K_near_75 : decode b_K_near 75 = .ok (.aload 4, 2) := by decide +kernel
theorem d_K_near_77 : decode b_K_near 77 = .ok (.iload 7, 2) := by decide +kernel
theorem d_K_near_79 : decode b_K_near 79 = .ok (.invokevirtual 77, 3) := by decide +kernel
theorem d_K_near_82 : decode b_K_near 82 = .ok (.invokestatic 81, 3) := by decide +kernel
theorem d_K_near_85 : decode b_K_near 85 = .ok (.aload 4, 2) := by decide +kernel
theorem d_K_near_87 : decode b_K_near 87 = .ok (.iload 7, 2) := by decide +kernel
theorem d_K_near_89 : decode b_K_near 89 = .ok (.invokevirtual 84, 3) := by decide +kernel
theorem d_K_near_92 : decode b_K_near 92 = .ok (.ireturn, 1) := by decide +kernel
theorem d_K_room_0 : decode b_K_room 0 = .ok (.aload_n 0, 1) := by decide +kernel
theorem d_K_room_1 : decode b_K_room 1 = .ok (.iload_n 1, 1) := by decide +kernel
theorem d_K_room_2 : decode b_K_room 2 = .ok (.invokevirtual 42, 3) := by decide +kernel
theorem d_K_room_5 : decode b_K_room 5 = .ok (.astore_n 2, 1) := by decide +kernel
theorem d_K_room_6 : decode b_K_room 6 = .ok (.aload_n 2, 1) := by decide +kernel
theorem d_K_room_7 : decode b_K_room 7 = .ok (.getfield 71, 3) := by decide +kernel
theorem d_K_room_10 : decode b_K_room 10 = .ok (.ifCond .eq 10, 3) := by decide +kernel
theorem d_K_room_13 : decode b_K_room 13 = .ok (.aload_n 2, 1) := by decide +kernel
theorem d_K_room_14 : decode b_K_room 14 = .ok (.invokevirtual 139, 3) := by decide +kernel
theorem d_K_room_17 : decode b_K_room 17 = .ok (.ifCond .eq 7, 3) := by decide +kernel
theorem d_K_room_20 : decode b_K_room 20 = .ok (.iconst 1, 1) := by decide +kernel
theorem d_K_room_21 : decode b_K_room 21 = .ok (.goto 4, 3) := by decide +kernel
theorem d_K_room_24 : decode b_K_room 24 = .ok (.iconst 0, 1) := by decide +kernel
theorem d_K_room_25 : decode b_K_room 25 = .ok (.invokestatic 53, 3) := by decide +kernel
theorem d_K_room_28 : decode b_K_room 28 = .ok (.aload_n 2, 1) := by decide +kernel
theorem d_K_room_29 : decode b_K_room 29 = .ok (.getfield 95, 3) := by decide +kernel
theorem d_K_room_32 : decode b_K_room 32 = .ok (.getfield 142, 3) := by decide +kernel
theorem d_K_room_35 : decode b_K_room 35 = .ok (.ireturn, 1) := by decide +kernel
theorem d_K_bucket_0 : decode b_K_bucket 0 = .ok (.aload_n 0, 1) := by decide +kernel
theorem d_K_bucket_1 : decode b_K_bucket 1 = .ok (.iload_n 1, 1) := by decide +kernel
theorem d_K_bucket_2 : decode b_K_bucket 2 = .ok (.invokevirtual 42, 3) := by decide +kernel
theorem d_K_bucket_5 : decode b_K_bucket 5 = .ok (.astore_n 3, 1) := by decide +kernel
theorem d_K_bucket_6 : decode b_K_bucket 6 = .ok (.aload_n 3, 1) := by decide +kernel
theorem d_K_bucket_7 : decode b_K_bucket 7 = .ok (.invokevirtual 139, 3) := by decide +kernel
theorem d_K_bucket_10 : decode b_K_bucket 10 = .ok (.invokestatic 53, 3) := by decide +kernel
theorem d_K_bucket_13 : decode b_K_bucket 13 = .ok (.aload_n 3, 1) := by decide +kernel
theorem d_K_bucket_14 : decode b_K_bucket 14 = .ok (.getfield 95, 3) := by decide +kernel
theorem d_K_bucket_17 : decode b_K_bucket 17 = .ok (.iload_n 2, 1) := by decide +kernel
theorem d_K_bucket_18 : decode b_K_bucket 18 = .ok (.invokevirtual 145, 3) := by decide +kernel
theorem d_K_bucket_21 : decode b_K_bucket 21 = .ok (.ireturn, 1) := by decide +kernel
theorem d_K_sift_0 : decode b_K_sift 0 = .ok (.aload_n 0, 1) := by decide +kernel
theorem d_K_sift_1 : decode b_K_sift 1 = .ok (.iload_n 1, 1) := by decide +kernel
theorem d_K_sift_2 : decode b_K_sift 2 = .ok (.invokevirtual 42, 3) := by decide +kernel
theorem d_K_sift_5 : decode b_K_sift 5 = .ok (.astore 4, 2) := by decide +kernel
theorem d_K_sift_7 : decode b_K_sift 7 = .ok (.aload 4, 2) := by decide +kernel
theorem d_K_sift_9 : decode b_K_sift 9 = .ok (.getfield 71, 3) := by decide +kernel
theorem d_K_sift_12 : decode b_K_sift 12 = .ok (.iconst 5, 1) := by decide +kernel
theorem d_K_sift_13 : decode b_K_sift 13 = .ok (.if_icmp .eq 7, 3) := by decide +kernel
theorem d_K_sift_16 : decode b_K_sift 16 = .ok (.iconst 1, 1) := by decide +kernel
theorem d_K_sift_17 : decode b_K_sift 17 = .ok (.goto 4, 3) := by decide +kernel
theorem d_K_sift_20 : decode b_K_sift 20 = .ok (.iconst 0, 1) := by decide +kernel
theorem d_K_sift_21 : decode b_K_sift 21 = .ok (.invokestatic 53, 3) := by decide +kernel
theorem d_K_sift_24 : decode b_K_sift 24 = .ok (.aload 4, 2) := by decide +kernel
theorem d_K_sift_26 : decode b_K_sift 26 = .ok (.invokestatic 56, 3) := by decide +kernel
theorem d_K_sift_29 : decode b_K_sift 29 = .ok (.iload_n 2, 1) := by decide +kernel
theorem d_K_sift_30 : decode b_K_sift 30 = .ok (.iconst 1, 1) := by decide +kernel
theorem d_K_sift_31 : decode b_K_sift 31 = .ok (.if_icmp .lt 7, 3) := by decide +kernel
theorem d_K_sift_34 : decode b_K_sift 34 = .ok (.iconst 1, 1) := by decide +kernel
theorem d_K_sift_35 : decode b_K_sift 35 = .ok (.goto 4, 3) := by decide +kernel
theorem d_K_sift_38 : decode b_K_sift 38 = .ok (.iconst 0, 1) := by decide +kernel
theorem d_K_sift_39 : decode b_K_sift 39 = .ok (.invokestatic 26, 3) := by decide +kernel
theorem d_K_sift_42 : decode b_K_sift 42 = .ok (.aload 4, 2) := by decide +kernel
theorem d_K_sift_44 : decode b_K_sift 44 = .ok (.iload_n 2, 1) := by decide +kernel
theorem d_K_sift_45 : decode b_K_sift 45 = .ok (.iload_n 3, 1) := by decide +kernel
theorem d_K_sift_46 : decode b_K_sift 46 = .ok (.invokevirtual 148, 3) := by decide +kernel
theorem d_K_sift_49 : decode b_K_sift 49 = .ok (.ireturn, 1) := by decide +kernel
theorem d_K_same_0 : decode b_K_same 0 = .ok (.aload_n 0, 1) := by decide +kernel
theorem d_K_same_1 : decode b_K_same 1 = .ok (.iload_n 1, 1) := by decide +kernel
theorem d_K_same_2 : decode b_K_same 2 = .ok (.invokevirtual 42, 3) := by decide +kernel
theorem d_K_same_5 : decode b_K_same 5 = .ok (.astore_n 3, 1) := by decide +kernel
theorem d_K_same_6 : decode b_K_same 6 = .ok (.aload_n 0, 1) := by decide +kernel
theorem d_K_same_7 : decode b_K_same 7 = .ok (.iload_n 2, 1) := by decide +kernel
theorem d_K_same_8 : decode b_K_same 8 = .ok (.invokevirtual 42, 3) := by decide +kernel
theorem d_K_same_11 : decode b_K_same 11 = .ok (.astore 4, 2) := by decide +kernel
theorem d_K_same_13 : decode b_K_same 13 = .ok (.aload_n 3, 1) := by decide +kernel
theorem d_K_same_14 : decode b_K_same 14 = .ok (.invokestatic 56, 3) := by decide +kernel
theorem d_K_same_17 : decode b_K_same 17 = .ok (.aload 4, 2) := by decide +kernel
theorem d_K_same_19 : decode b_K_same 19 = .ok (.invokestatic 56, 3) := by decide +kernel
theorem d_K_same_22 : decode b_K_same 22 = .ok (.aload_n 3, 1) := by decide +kernel
theorem d_K_same_23 : decode b_K_same 23 = .ok (.invokevirtual 46, 3) := by decide +kernel
theorem d_K_same_26 : decode b_K_same 26 = .ok (.ifCond .eq 18, 3) := by decide +kernel
theorem d_K_same_29 : decode b_K_same 29 = .ok (.aload 4, 2) := by decide +kernel
theorem d_K_same_31 : decode b_K_same 31 = .ok (.invokevirtual 46, 3) := by decide +kernel
theorem d_K_same_34 : decode b_K_same 34 = .ok (.ifCond .eq 10, 3) := by decide +kernel
theorem d_K_same_37 : decode b_K_same 37 = .ok (.aload_n 3, 1) := by decide +kernel
theorem d_K_same_38 : decode b_K_same 38 = .ok (.aload 4, 2) := by decide +kernel
theorem d_K_same_40 : decode b_K_same 40 = .ok (.invokevirtual 151, 3) := by decide +kernel
theorem d_K_same_43 : decode b_K_same 43 = .ok (.ireturn, 1) := by decide +kernel
theorem d_K_same_44 : decode b_K_same 44 = .ok (.aload_n 3, 1) := by decide +kernel
theorem d_K_same_45 : decode b_K_same 45 = .ok (.invokevirtual 155, 3) := by decide +kernel
theorem d_K_same_48 : decode b_K_same 48 = .ok (.ifCond .eq 24, 3) := by decide +kernel
theorem d_K_same_51 : decode b_K_same 51 = .ok (.aload 4, 2) := by decide +kernel
theorem d_K_same_53 : decode b_K_same 53 = .ok (.invokevirtual 155, 3) := by decide +kernel
theorem d_K_same_56 : decode b_K_same 56 = .ok (.ifCond .eq 16, 3) := by decide +kernel
theorem d_K_same_59 : decode b_K_same 59 = .ok (.aload_n 3, 1) := by decide +kernel
theorem d_K_same_60 : decode b_K_same 60 = .ok (.aload 4, 2) := by decide +kernel
theorem d_K_same_62 : decode b_K_same 62 = .ok (.invokevirtual 158, 3) := by decide +kernel
theorem d_K_same_65 : decode b_K_same 65 = .ok (.ifCond .eq 7, 3) := by decide +kernel
theorem d_K_same_68 : decode b_K_same 68 = .ok (.iconst 1, 1) := by decide +kernel
theorem d_K_same_69 : decode b_K_same 69 = .ok (.goto 4, 3) := by decide +kernel
theorem d_K_same_72 : decode b_K_same 72 = .ok (.iconst 0, 1) := by decide +kernel
theorem d_K_same_73 : decode b_K_same 73 = .ok (.ireturn, 1) := by decide +kernel
theorem d_K_open_0 : decode b_K_open 0 = .ok (.aload_n 0, 1) := by decide +kernel
theorem d_K_open_1 : decode b_K_open 1 = .ok (.iload_n 1, 1) := by decide +kernel
theorem d_K_open_2 : decode b_K_open 2 = .ok (.invokevirtual 161, 3) := by decide +kernel
theorem d_K_open_5 : decode b_K_open 5 = .ok (.astore_n 3, 1) := by decide +kernel
theorem d_K_open_6 : decode b_K_open 6 = .ok (.aload_n 0, 1) := by decide +kernel
theorem d_K_open_7 : decode b_K_open 7 = .ok (.iload_n 2, 1) := by decide +kernel
theorem d_K_open_8 : decode b_K_open 8 = .ok (.invokevirtual 42, 3) := by decide +kernel
theorem d_K_open_11 : decode b_K_open 11 = .ok (.astore 4, 2) := by decide +kernel
theorem d_K_open_13 : decode b_K_open 13 = .ok (.aload 4, 2) := by decide +kernel
theorem d_K_open_15 : decode b_K_open 15 = .ok (.getfield 71, 3) := by decide +kernel
theorem d_K_open_18 : decode b_K_open 18 = .ok (.iconst 5, 1) := by decide +kernel
theorem d_K_open_19 : decode b_K_open 19 = .ok (.if_icmp .eq 7, 3) := by decide +kernel
theorem d_K_open_22 : decode b_K_open 22 = .ok (.iconst 1, 1) := by decide +kernel
theorem d_K_open_23 : decode b_K_open 23 = .ok (.goto 4, 3) := by decide +kernel
theorem d_K_open_26 : decode b_K_open 26 = .ok (.iconst 0, 1) := by decide +kernel
theorem d_K_open_27 : decode b_K_open 27 = .ok (.invokestatic 53, 3) := by decide +kernel
theorem d_K_open_30 : decode b_K_open 30 = .ok (.aload 4, 2) := by decide +kernel
theorem d_K_open_32 : decode b_K_open 32 = .ok (.invokestatic 56, 3) := by decide +kernel
theorem d_K_open_35 : decode b_K_open 35 = .ok (.aload_n 3, 1) := by decide +kernel
theorem d_K_open_36 : decode b_K_open 36 = .ok (.aload 4, 2) := by decide +kernel
theorem d_K_open_38 : decode b_K_open 38 = .ok (.invokevirtual 165, 3) := by decide +kernel
theorem d_K_open_41 : decode b_K_open 41 = .ok (.return_, 1) := by decide +kernel
theorem d_K_next_0 : decode b_K_next 0 = .ok (.aload_n 0, 1) := by decide +kernel
theorem d_K_next_1 : decode b_K_next 1 = .ok (.iload_n 1, 1) := by decide +kernel
theorem d_K_next_2 : decode b_K_next 2 = .ok (.invokevirtual 168, 3) := by decide +kernel
theorem d_K_next_5 : decode b_K_next 5 = .ok (.astore_n 3, 1) := by decide +kernel
theorem d_K_next_6 : decode b_K_next 6 = .ok (.aload_n 3, 1) := by decide +kernel
theorem d_K_next_7 : decode b_K_next 7 = .ok (.getfield 171, 3) := by decide +kernel
theorem d_K_next_10 : decode b_K_next 10 = .ok (.astore 4, 2) := by decide +kernel
theorem d_K_next_12 : decode b_K_next 12 = .ok (.iload_n 2, 1) := by decide +kernel
theorem d_K_next_13 : decode b_K_next 13 = .ok (.ifCond .ne 11, 3) := by decide +kernel
theorem d_K_next_16 : decode b_K_next 16 = .ok (.aload 4, 2) := by decide +kernel
theorem d_K_next_18 : decode b_K_next 18 = .ok (.invokevirtual 46, 3) := by decide +kernel
theorem d_K_next_21 : decode b_K_next 21 = .ok (.ifCond .eq 7, 3) := by decide +kernel
theorem d_K_next_24 : decode b_K_next 24 = .ok (.iconst 1, 1) := by decide +kernel
theorem d_K_next_25 : decode b_K_next 25 = .ok (.goto 4, 3) := by decide +kernel
theorem d_K_next_28 : decode b_K_next 28 = .ok (.iconst 0, 1) := by decide +kernel
theorem d_K_next_29 : decode b_K_next 29 = .ok (.invokestatic 53, 3) := by decide +kernel
theorem d_K_next_32 : decode b_K_next 32 = .ok (.aload_n 3, 1) := by decide +kernel
theorem d_K_next_33 : decode b_K_next 33 = .ok (.invokestatic 175, 3) := by decide +kernel
theorem d_K_next_36 : decode b_K_next 36 = .ok (.iload_n 2, 1) := by decide +kernel
theorem d_K_next_37 : decode b_K_next 37 = .ok (.ifCond .eq 10, 3) := by decide +kernel
theorem d_K_next_40 : decode b_K_next 40 = .ok (.aload_n 3, 1) := by decide +kernel
theorem d_K_next_41 : decode b_K_next 41 = .ok (.getfield 179, 3) := by decide +kernel
theorem d_K_next_44 : decode b_K_next 44 = .ok (.goto 9, 3) := by decide +kernel
theorem d_K_next_47 : decode b_K_next 47 = .ok (.aload_n 3, 1) := by decide +kernel
theorem d_K_next_48 : decode b_K_next 48 = .ok (.getfield 179, 3) := by decide +kernel
theorem d_K_next_51 : decode b_K_next 51 = .ok (.iconst 1, 1) := by decide +kernel
theorem d_K_next_52 : decode b_K_next 52 = .ok (.isub, 1) := by decide +kernel
theorem d_K_next_53 : decode b_K_next 53 = .ok (.istore 5, 2) := by decide +kernel
theorem d_K_next_55 : decode b_K_next 55 = .ok (.aload 4, 2) := by decide +kernel
theorem d_K_next_57 : decode b_K_next 57 = .ok (.iload 5, 2) := by decide +kernel
theorem d_K_next_59 : decode b_K_next 59 = .ok (.invokevirtual 77, 3) := by decide +kernel
theorem d_K_next_62 : decode b_K_next 62 = .ok (.invokestatic 81, 3) := by decide +kernel
theorem d_K_next_65 : decode b_K_next 65 = .ok (.aload_n 3, 1) := by decide +kernel
theorem d_K_next_66 : decode b_K_next 66 = .ok (.iload 5, 2) := by decide +kernel
theorem d_K_next_68 : decode b_K_next 68 = .ok (.iload_n 2, 1) := by decide +kernel
theorem d_K_next_69 : decode b_K_next 69 = .ok (.invokevirtual 182, 3) := by decide +kernel
theorem d_K_next_72 : decode b_K_next 72 = .ok (.aload 4, 2) := by decide +kernel
theorem d_K_next_74 : decode b_K_next 74 = .ok (.iload 5, 2) := by decide +kernel
theorem d_K_next_76 : decode b_K_next 76 = .ok (.invokevirtual 84, 3) := by decide +kernel
theorem d_K_next_79 : decode b_K_next 79 = .ok (.ireturn, 1) := by decide +kernel
theorem d_K_left_0 : decode b_K_left 0 = .ok (.aload_n 0, 1) := by decide +kernel
theorem d_K_left_1 : decode b_K_left 1 = .ok (.iload_n 1, 1) := by decide +kernel
theorem d_K_left_2 : decode b_K_left 2 = .ok (.invokevirtual 168, 3) := by decide +kernel
theorem d_K_left_5 : decode b_K_left 5 = .ok (.astore_n 2, 1) := by decide +kernel
theorem d_K_left_6 : decode b_K_left 6 = .ok (.aload_n 2, 1) := by decide +kernel
theorem d_K_left_7 : decode b_K_left 7 = .ok (.invokestatic 175, 3) := by decide +kernel
theorem d_K_left_10 : decode b_K_left 10 = .ok (.aload_n 2, 1) := by decide +kernel
theorem d_K_left_11 : decode b_K_left 11 = .ok (.getfield 171, 3) := by decide +kernel
theorem d_K_left_14 : decode b_K_left 14 = .ok (.invokevirtual 60, 3) := by decide +kernel
theorem d_K_left_17 : decode b_K_left 17 = .ok (.aload_n 2, 1) := by decide +kernel
theorem d_K_left_18 : decode b_K_left 18 = .ok (.getfield 179, 3) := by decide +kernel
theorem d_K_left_21 : decode b_K_left 21 = .ok (.isub, 1) := by decide +kernel
theorem d_K_left_22 : decode b_K_left 22 = .ok (.ireturn, 1) := by decide +kernel
theorem d_K_erase_0 : decode b_K_erase 0 = .ok (.aload_n 0, 1) := by decide +kernel
theorem d_K_erase_1 : decode b_K_erase 1 = .ok (.iload_n 1, 1) := by decide +kernel
theorem d_K_erase_2 : decode b_K_erase 2 = .ok (.invokevirtual 168, 3) := by decide +kernel
theorem d_K_erase_5 : decode b_K_erase 5 = .ok (.astore_n 2, 1) := by decide +kernel
theorem d_K_erase_6 : decode b_K_erase 6 = .ok (.aload_n 2, 1) := by decide +kernel
theorem d_K_erase_7 : decode b_K_erase 7 = .ok (.invokestatic 175, 3) := by decide +kernel
theorem d_K_erase_10 : decode b_K_erase 10 = .ok (.aload_n 2, 1) := by decide +kernel
theorem d_K_erase_11 : decode b_K_erase 11 = .ok (.getfield 186, 3) := by decide +kernel
theorem d_K_erase_14 : decode b_K_erase 14 = .ok (.iconst (-1), 1) := by decide +kernel
theorem d_K_erase_15 : decode b_K_erase 15 = .ok (.if_icmp .eq 7, 3) := by decide +kernel
theorem d_K_erase_18 : decode b_K_erase 18 = .ok (.iconst 1, 1) := by decide +kernel
theorem d_K_erase_19 : decode b_K_erase 19 = .ok (.goto 4, 3) := by decide +kernel
theorem d_K_erase_22 : decode b_K_erase 22 = .ok (.iconst 0, 1) := by decide +kernel
theorem d_K_erase_23 : decode b_K_erase 23 = .ok (.invokestatic 26, 3) := by decide +kernel
theorem d_K_erase_26 : decode b_K_erase 26 = .ok (.aload_n 2, 1) := by decide +kernel
theorem d_K_erase_27 : decode b_K_erase 27 = .ok (.getfield 171, 3) := by decide +kernel
theorem d_K_erase_30 : decode b_K_erase 30 = .ok (.aload_n 2, 1) := by decide +kernel
theorem d_K_erase_31 : decode b_K_erase 31 = .ok (.getfield 186, 3) := by decide +kernel
theorem d_K_erase_34 : decode b_K_erase 34 = .ok (.invokevirtual 113, 3) := by decide +kernel
theorem d_K_erase_37 : decode b_K_erase 37 = .ok (.pop, 1) := by decide +kernel
theorem d_K_erase_38 : decode b_K_erase 38 = .ok (.aload_n 2, 1) := by decide +kernel
theorem d_K_erase_39 : decode b_K_erase 39 = .ok (.aload_n 2, 1) := by decide +kernel
theorem d_K_erase_40 : decode b_K_erase 40 = .ok (.getfield 186, 3) := by decide +kernel
theorem d_K_erase_43 : decode b_K_erase 43 = .ok (.invokevirtual 189, 3) := by decide +kernel
theorem d_K_erase_46 : decode b_K_erase 46 = .ok (.return_, 1) := by decide +kernel
theorem d_K_assign_0 : decode b_K_assign 0 = .ok (.aload_n 0, 1) := by decide +kernel
theorem d_K_assign_1 : decode b_K_assign 1 = .ok (.iload_n 1, 1) := by decide +kernel
theorem d_K_assign_2 : decode b_K_assign 2 = .ok (.invokevirtual 168, 3) := by decide +kernel
theorem d_K_assign_5 : decode b_K_assign 5 = .ok (.astore_n 3, 1) := by decide +kernel
theorem d_K_assign_6 : decode b_K_assign 6 = .ok (.aload_n 3, 1) := by decide +kernel
theorem d_K_assign_7 : decode b_K_assign 7 = .ok (.invokestatic 175, 3) := by decide +kernel
theorem d_K_assign_10 : decode b_K_assign 10 = .ok (.aload_n 3, 1) := by decide +kernel
theorem d_K_assign_11 : decode b_K_assign 11 = .ok (.getfield 186, 3) := by decide +kernel
theorem d_K_assign_14 : decode b_K_assign 14 = .ok (.iconst (-1), 1) := by decide +kernel
theorem d_K_assign_15 : decode b_K_assign 15 = .ok (.if_icmp .eq 7, 3) := by decide +kernel
theorem d_K_assign_18 : decode b_K_assign 18 = .ok (.iconst 1, 1) := by decide +kernel
theorem d_K_assign_19 : decode b_K_assign 19 = .ok (.goto 4, 3) := by decide +kernel
theorem d_K_assign_22 : decode b_K_assign 22 = .ok (.iconst 0, 1) := by decide +kernel
theorem d_K_assign_23 : decode b_K_assign 23 = .ok (.invokestatic 26, 3) := by decide +kernel
theorem d_K_assign_26 : decode b_K_assign 26 = .ok (.aload_n 3, 1) := by decide +kernel
theorem d_K_assign_27 : decode b_K_assign 27 = .ok (.getfield 171, 3) := by decide +kernel
theorem d_K_assign_30 : decode b_K_assign 30 = .ok (.astore 4, 2) := by decide +kernel
theorem d_K_assign_32 : decode b_K_assign 32 = .ok (.aload 4, 2) := by decide +kernel
theorem d_K_assign_34 : decode b_K_assign 34 = .ok (.invokevirtual 46, 3) := by decide +kernel
theorem d_K_assign_37 : decode b_K_assign 37 = .ok (.ifCond .eq 16, 3) := by decide +kernel
theorem d_K_assign_40 : decode b_K_assign 40 = .ok (.aload 4, 2) := by decide +kernel
theorem d_K_assign_42 : decode b_K_assign 42 = .ok (.aload_n 3, 1) := by decide +kernel
theorem d_K_assign_43 : decode b_K_assign 43 = .ok (.getfield 186, 3) := by decide +kernel
theorem d_K_assign_46 : decode b_K_assign 46 = .ok (.iload_n 2, 1) := by decide +kernel
theorem d_K_assign_47 : decode b_K_assign 47 = .ok (.invokevirtual 88, 3) := by decide +kernel
theorem d_K_assign_50 : decode b_K_assign 50 = .ok (.goto 13, 3) := by decide +kernel
theorem d_K_assign_53 : decode b_K_assign 53 = .ok (.aload 4, 2) := by decide +kernel
theorem d_K_assign_55 : decode b_K_assign 55 = .ok (.aload_n 3, 1) := by decide +kernel
theorem d_K_assign_56 : decode b_K_assign 56 = .ok (.getfield 186, 3) := by decide +kernel
theorem d_K_assign_59 : decode b_K_assign 59 = .ok (.iload_n 2, 1) := by decide +kernel
theorem d_K_assign_60 : decode b_K_assign 60 = .ok (.invokevirtual 192, 3) := by decide +kernel
theorem d_K_assign_63 : decode b_K_assign 63 = .ok (.ireturn, 1) := by decide +kernel
theorem d_K_plant_0 : decode b_K_plant 0 = .ok (.aload_n 0, 1) := by decide +kernel
theorem d_K_plant_1 : decode b_K_plant 1 = .ok (.iload_n 1, 1) := by decide +kernel
theorem d_K_plant_2 : decode b_K_plant 2 = .ok (.invokevirtual 168, 3) := by decide +kernel
theorem d_K_plant_5 : decode b_K_plant 5 = .ok (.astore_n 3, 1) := by decide +kernel
theorem d_K_plant_6 : decode b_K_plant 6 = .ok (.aload_n 3, 1) := by decide +kernel
theorem d_K_plant_7 : decode b_K_plant 7 = .ok (.getfield 171, 3) := by decide +kernel
theorem d_K_plant_10 : decode b_K_plant 10 = .ok (.astore 4, 2) := by decide +kernel
theorem d_K_plant_12 : decode b_K_plant 12 = .ok (.aload 4, 2) := by decide +kernel
theorem d_K_plant_14 : decode b_K_plant 14 = .ok (.invokevirtual 46, 3) := by decide +kernel
theorem d_K_plant_17 : decode b_K_plant 17 = .ok (.invokestatic 53, 3) := by decide +kernel
theorem d_K_plant_20 : decode b_K_plant 20 = .ok (.aload_n 3, 1) := by decide +kernel
theorem d_K_plant_21 : decode b_K_plant 21 = .ok (.invokestatic 175, 3) := by decide +kernel
theorem d_K_plant_24 : decode b_K_plant 24 = .ok (.aload 4, 2) := by decide +kernel
theorem d_K_plant_26 : decode b_K_plant 26 = .ok (.getfield 95, 3) := by decide +kernel
theorem d_K_plant_29 : decode b_K_plant 29 = .ok (.invokestatic 99, 3) := by decide +kernel
theorem d_K_plant_32 : decode b_K_plant 32 = .ok (.aload 4, 2) := by decide +kernel
theorem d_K_plant_34 : decode b_K_plant 34 = .ok (.aload_n 3, 1) := by decide +kernel
theorem d_K_plant_35 : decode b_K_plant 35 = .ok (.getfield 179, 3) := by decide +kernel
theorem d_K_plant_38 : decode b_K_plant 38 = .ok (.iload_n 2, 1) := by decide +kernel
theorem d_K_plant_39 : decode b_K_plant 39 = .ok (.invokevirtual 109, 3) := by decide +kernel
theorem d_K_plant_42 : decode b_K_plant 42 = .ok (.aload_n 3, 1) := by decide +kernel
theorem d_K_plant_43 : decode b_K_plant 43 = .ok (.aload_n 3, 1) := by decide +kernel
theorem d_K_plant_44 : decode b_K_plant 44 = .ok (.getfield 179, 3) := by decide +kernel
theorem d_K_plant_47 : decode b_K_plant 47 = .ok (.iconst 1, 1) := by decide +kernel
theorem d_K_plant_48 : decode b_K_plant 48 = .ok (.iadd, 1) := by decide +kernel
theorem d_K_plant_49 : decode b_K_plant 49 = .ok (.invokevirtual 189, 3) := by decide +kernel
theorem d_K_plant_52 : decode b_K_plant 52 = .ok (.return_, 1) := by decide +kernel
theorem d_K_containerAt_0 : decode b_K_containerAt 0 = .ok (.iload_n 1, 1) := by decide +kernel
theorem d_K_containerAt_1 : decode b_K_containerAt 1 = .ok (.ifCond .lt 21, 3) := by decide +kernel
theorem d_K_containerAt_4 : decode b_K_containerAt 4 = .ok (.iload_n 1, 1) := by decide +kernel
theorem d_K_containerAt_5 : decode b_K_containerAt 5 = .ok (.aload_n 0, 1) := by decide +kernel
theorem d_K_containerAt_6 : decode b_K_containerAt 6 = .ok (.getfield 11, 3) := by decide +kernel
theorem d_K_containerAt_9 : decode b_K_containerAt 9 = .ok (.arraylength, 1) := by decide +kernel
theorem d_K_containerAt_10 : decode b_K_containerAt 10 = .ok (.if_icmp .ge 12, 3) := by decide +kernel
theorem d_K_containerAt_13 : decode b_K_containerAt 13 = .ok (.aload_n 0, 1) := by decide +kernel
theorem d_K_containerAt_14 : decode b_K_containerAt 14 = .ok (.getfield 11, 3) := by decide +kernel
theorem d_K_containerAt_17 : decode b_K_containerAt 17 = .ok (.iload_n 1, 1) := by decide +kernel
theorem d_K_containerAt_18 : decode b_K_containerAt 18 = .ok (.aaload, 1) := by decide +kernel
theorem d_K_containerAt_19 : decode b_K_containerAt 19 = .ok (.ifnonnull 13, 3) := by decide +kernel
theorem d_K_containerAt_22 : decode b_K_containerAt 22 = .ok (.new 195, 3) := by decide +kernel
theorem d_K_containerAt_25 : decode b_K_containerAt 25 = .ok (.dup, 1) := by decide +kernel
theorem d_K_containerAt_26 : decode b_K_containerAt 26 = .ok (.ldc 197, 2) := by decide +kernel
theorem d_K_containerAt_28 : decode b_K_containerAt 28 = .ok (.invokespecial 199, 3) := by decide +kernel
theorem d_K_containerAt_31 : decode b_K_containerAt 31 = .ok (.athrow, 1) := by decide +kernel
theorem d_K_containerAt_32 : decode b_K_containerAt 32 = .ok (.aload_n 0, 1) := by decide +kernel
theorem d_K_containerAt_33 : decode b_K_containerAt 33 = .ok (.getfield 11, 3) := by decide +kernel
theorem d_K_containerAt_36 : decode b_K_containerAt 36 = .ok (.iload_n 1, 1) := by decide +kernel
theorem d_K_containerAt_37 : decode b_K_containerAt 37 = .ok (.aaload, 1) := by decide +kernel
theorem d_K_containerAt_38 : decode b_K_containerAt 38 = .ok (.areturn, 1) := by decide +kernel
theorem d_K_mapAt_0 : decode b_K_mapAt 0 = .ok (.aload_n 0, 1) := by decide +kernel
theorem d_K_mapAt_1 : decode b_K_mapAt 1 = .ok (.iload_n 1, 1) := by decide +kernel
theorem d_K_mapAt_2 : decode b_K_mapAt 2 = .ok (.invokevirtual 42, 3) := by decide +kernel
theorem d_K_mapAt_5 : decode b_K_mapAt 5 = .ok (.astore_n 2, 1) := by decide +kernel
theorem d_K_mapAt_6 : decode b_K_mapAt 6 = .ok (.aload_n 2, 1) := by decide +kernel
theorem d_K_mapAt_7 : decode b_K_mapAt 7 = .ok (.invokevirtual 155, 3) := by decide +kernel
theorem d_K_mapAt_10 : decode b_K_mapAt 10 = .ok (.invokestatic 53, 3) := by decide +kernel
theorem d_K_mapAt_13 : decode b_K_mapAt 13 = .ok (.aload_n 2, 1) := by decide +kernel
theorem d_K_mapAt_14 : decode b_K_mapAt 14 = .ok (.areturn, 1) := by decide +kernel
theorem d_K_freshList_0 : decode b_K_freshList 0 = .ok (.aload_n 0, 1) := by decide +kernel
theorem d_K_freshList_1 : decode b_K_freshList 1 = .ok (.iload_n 1, 1) := by decide +kernel
theorem d_K_freshList_2 : decode b_K_freshList 2 = .ok (.invokevirtual 42, 3) := by decide +kernel
theorem d_K_freshList_5 : decode b_K_freshList 5 = .ok (.astore_n 2, 1) := by decide +kernel
theorem d_K_freshList_6 : decode b_K_freshList 6 = .ok (.aload_n 2, 1) := by decide +kernel
theorem d_K_freshList_7 : decode b_K_freshList 7 = .ok (.invokevirtual 46, 3) := by decide +kernel
theorem d_K_freshList_10 : decode b_K_freshList 10 = .ok (.invokestatic 53, 3) := by decide +kernel
theorem d_K_freshList_13 : decode b_K_freshList 13 = .ok (.aload_n 2, 1) := by decide +kernel
theorem d_K_freshList_14 : decode b_K_freshList 14 = .ok (.invokestatic 56, 3) := by decide +kernel
theorem d_K_freshList_17 : decode b_K_freshList 17 = .ok (.aload_n 2, 1) := by decide +kernel
theorem d_K_freshList_18 : decode b_K_freshList 18 = .ok (.areturn, 1) := by decide +kernel
theorem d_K_freshListOrHeap_0 : decode b_K_freshListOrHeap 0 = .ok (.aload_n 0, 1) := by decide +kernel
theorem d_K_freshListOrHeap_1 : decode b_K_freshListOrHeap 1 = .ok (.iload_n 1, 1) := by decide +kernel
theorem d_K_freshListOrHeap_2 : decode b_K_freshListOrHeap 2 = .ok (.invokevirtual 42, 3) := by decide +kernel
theorem d_K_freshListOrHeap_5 : decode b_K_freshListOrHeap 5 = .ok (.astore_n 2, 1) := by decide +kernel
theorem d_K_freshListOrHeap_6 : decode b_K_freshListOrHeap 6 = .ok (.aload_n 2, 1) := by decide +kernel
theorem d_K_freshListOrHeap_7 : decode b_K_freshListOrHeap 7 = .ok (.invokevirtual 46, 3) := by decide +kernel
theorem d_K_freshListOrHeap_10 : decode b_K_freshListOrHeap 10 = .ok (.ifCond .ne 11, 3) := by decide +kernel
theorem d_K_freshListOrHeap_13 : decode b_K_freshListOrHeap 13 = .ok (.aload_n 2, 1) := by decide +kernel
theorem d_K_freshListOrHeap_14 : decode b_K_freshListOrHeap 14 = .ok (.getfield 71, 3) := by decide +kernel
theorem d_K_freshListOrHeap_17 : decode b_K_freshListOrHeap 17 = .ok (.iconst 5, 1) := by decide +kernel
theorem d_K_freshListOrHeap_18 : decode b_K_freshListOrHeap 18 = .ok (.if_icmp .ne 7, 3) := by decide +kernel
theorem d_K_freshListOrHeap_21 : decode b_K_freshListOrHeap 21 = .ok (.iconst 1, 1) := by decide +kernel
theorem d_K_freshListOrHeap_22 : decode b_K_freshListOrHeap 22 = .ok (.goto 4, 3) := by decide +kernel
theorem d_K_freshListOrHeap_25 : decode b_K_freshListOrHeap 25 = .ok (.iconst 0, 1) := by decide +kernel
theorem d_K_freshListOrHeap_26 : decode b_K_freshListOrHeap 26 = .ok (.invokestatic 53, 3) := by decide +kernel
theorem d_K_freshListOrHeap_29 : decode b_K_freshListOrHeap 29 = .ok (.aload_n 2, 1) := by decide +kernel
theorem d_K_freshListOrHeap_30 : decode b_K_freshListOrHeap 30 = .ok (.invokestatic 56, 3) := by decide +kernel
theorem d_K_freshListOrHeap_33 : decode b_K_freshListOrHeap 33 = .ok (.aload_n 2, 1) := by decide +kernel
theorem d_K_freshListOrHeap_34 : decode b_K_freshListOrHeap 34 = .ok (.areturn, 1) := by decide +kernel
theorem d_K_walkAt_0 : decode b_K_walkAt 0 = .ok (.iload_n 1, 1) := by decide +kernel
theorem d_K_walkAt_1 : decode b_K_walkAt 1 = .ok (.ifCond .lt 21, 3) := by decide +kernel
theorem d_K_walkAt_4 : decode b_K_walkAt 4 = .ok (.iload_n 1, 1) := by decide +kernel
theorem d_K_walkAt_5 : decode b_K_walkAt 5 = .ok (.aload_n 0, 1) := by decide +kernel
theorem d_K_walkAt_6 : decode b_K_walkAt 6 = .ok (.getfield 17, 3) := by decide +kernel
theorem d_K_walkAt_9 : decode b_K_walkAt 9 = .ok (.arraylength, 1) := by decide +kernel
theorem d_K_walkAt_10 : decode b_K_walkAt 10 = .ok (.if_icmp .ge 12, 3) := by decide +kernel
theorem d_K_walkAt_13 : decode b_K_walkAt 13 = .ok (.aload_n 0, 1) := by decide +kernel
theorem d_K_walkAt_14 : decode b_K_walkAt 14 = .ok (.getfield 17, 3) := by decide +kernel
theorem d_K_walkAt_17 : decode b_K_walkAt 17 = .ok (.iload_n 1, 1) := by decide +kernel
theorem d_K_walkAt_18 : decode b_K_walkAt 18 = .ok (.aaload, 1) := by decide +kernel
theorem d_K_walkAt_19 : decode b_K_walkAt 19 = .ok (.ifnonnull 13, 3) := by decide +kernel
theorem d_K_walkAt_22 : decode b_K_walkAt 22 = .ok (.new 195, 3) := by decide +kernel
theorem d_K_walkAt_25 : decode b_K_walkAt 25 = .ok (.dup, 1) := by decide +kernel
theorem d_K_walkAt_26 : decode b_K_walkAt 26 = .ok (.ldc 202, 2) := by decide +kernel
theorem d_K_walkAt_28 : decode b_K_walkAt 28 = .ok (.invokespecial 199, 3) := by decide +kernel
theorem d_K_walkAt_31 : decode b_K_walkAt 31 = .ok (.athrow, 1) := by decide +kernel
theorem d_K_walkAt_32 : decode b_K_walkAt 32 = .ok (.aload_n 0, 1) := by decide +kernel
theorem d_K_walkAt_33 : decode b_K_walkAt 33 = .ok (.getfield 17, 3) := by decide +kernel
theorem d_K_walkAt_36 : decode b_K_walkAt 36 = .ok (.iload_n 1, 1) := by decide +kernel
theorem d_K_walkAt_37 : decode b_K_walkAt 37 = .ok (.aaload, 1) := by decide +kernel
theorem d_K_walkAt_38 : decode b_K_walkAt 38 = .ok (.areturn, 1) := by decide +kernel
theorem d_K_openedWalkAt_0 : decode b_K_openedWalkAt 0 = .ok (.aload_n 0, 1) := by decide +kernel
theorem d_K_openedWalkAt_1 : decode b_K_openedWalkAt 1 = .ok (.iload_n 1, 1) := by decide +kernel
theorem d_K_openedWalkAt_2 : decode b_K_openedWalkAt 2 = .ok (.invokevirtual 161, 3) := by decide +kernel
theorem d_K_openedWalkAt_5 : decode b_K_openedWalkAt 5 = .ok (.astore_n 2, 1) := by decide +kernel
theorem d_K_openedWalkAt_6 : decode b_K_openedWalkAt 6 = .ok (.aload_n 2, 1) := by decide +kernel
theorem d_K_openedWalkAt_7 : decode b_K_openedWalkAt 7 = .ok (.getfield 171, 3) := by decide +kernel
theorem d_K_openedWalkAt_10 : decode b_K_openedWalkAt 10 = .ok (.ifnonnull 13, 3) := by decide +kernel
theorem d_K_openedWalkAt_13 : decode b_K_openedWalkAt 13 = .ok (.new 195, 3) := by decide +kernel
theorem d_K_openedWalkAt_16 : decode b_K_openedWalkAt 16 = .ok (.dup, 1) := by decide +kernel
theorem d_K_openedWalkAt_17 : decode b_K_openedWalkAt 17 = .ok (.ldc 204, 2) := by decide +kernel
theorem d_K_openedWalkAt_19 : decode b_K_openedWalkAt 19 = .ok (.invokespecial 199, 3) := by decide +kernel
theorem d_K_openedWalkAt_22 : decode b_K_openedWalkAt 22 = .ok (.athrow, 1) := by decide +kernel
theorem d_K_openedWalkAt_23 : decode b_K_openedWalkAt 23 = .ok (.aload_n 2, 1) := by decide +kernel
theorem d_K_openedWalkAt_24 : decode b_K_openedWalkAt 24 = .ok (.areturn, 1) := by decide +kernel
theorem d_K_keepContainer_0 : decode b_K_keepContainer 0 = .ok (.aload_n 0, 1) := by decide +kernel
theorem d_K_keepContainer_1 : decode b_K_keepContainer 1 = .ok (.getfield 21, 3) := by decide +kernel
theorem d_K_keepContainer_4 : decode b_K_keepContainer 4 = .ok (.istore_n 2, 1) := by decide +kernel
theorem d_K_keepContainer_5 : decode b_K_keepContainer 5 = .ok (.iload_n 2, 1) := by decide +kernel
theorem d_K_keepContainer_6 : decode b_K_keepContainer 6 = .ok (.ifCond .lt 26, 3) := by decide +kernel
theorem d_K_keepContainer_9 : decode b_K_keepContainer 9 = .ok (.iload_n 2, 1) := by decide +kernel
theorem d_K_keepContainer_10 : decode b_K_keepContainer 10 = .ok (.aload_n 0, 1) := by decide +kernel
theorem d_K_keepContainer_11 : decode b_K_keepContainer 11 = .ok (.getfield 11, 3) := by decide +kernel
theorem d_K_keepContainer_14 : decode b_K_keepContainer 14 = .ok (.arraylength, 1) := by decide +kernel
theorem d_K_keepContainer_15 : decode b_K_keepContainer 15 = .ok (.if_icmp .ge 17, 3) := by decide +kernel
theorem d_K_keepContainer_18 : decode b_K_keepContainer 18 = .ok (.aload_n 0, 1) := by decide +kernel
theorem d_K_keepContainer_19 : decode b_K_keepContainer 19 = .ok (.getfield 11, 3) := by decide +kernel
theorem d_K_keepContainer_22 : decode b_K_keepContainer 22 = .ok (.iload_n 2, 1) := by decide +kernel
theorem d_K_keepContainer_23 : decode b_K_keepContainer 23 = .ok (.aload_n 1, 1) := by decide +kernel
theorem d_K_keepContainer_24 : decode b_K_keepContainer 24 = .ok (.aastore, 1) := by decide +kernel
theorem d_K_keepContainer_25 : decode b_K_keepContainer 25 = .ok (.aload_n 0, 1) := by decide +kernel
theorem d_K_keepContainer_26 : decode b_K_keepContainer 26 = .ok (.iload_n 2, 1) := by decide +kernel
theorem d_K_keepContainer_27 : decode b_K_keepContainer 27 = .ok (.iconst 1, 1) := by decide +kernel
theorem d_K_keepContainer_28 : decode b_K_keepContainer 28 = .ok (.iadd, 1) := by decide +kernel
theorem d_K_keepContainer_29 : decode b_K_keepContainer 29 = .ok (.putfield 21, 3) := by decide +kernel
theorem d_K_keepContainer_32 : decode b_K_keepContainer 32 = .ok (.iload_n 2, 1) := by decide +kernel
theorem d_K_keepContainer_33 : decode b_K_keepContainer 33 = .ok (.ireturn, 1) := by decide +kernel
theorem d_K_partOf_0 : decode b_K_partOf 0 = .ok (.aload_n 0, 1) := by decide +kernel
theorem d_K_partOf_1 : decode b_K_partOf 1 = .ok (.instanceof 206, 3) := by decide +kernel
theorem d_K_partOf_4 : decode b_K_partOf 4 = .ok (.ifCond .eq 10, 3) := by decide +kernel
theorem d_K_partOf_7 : decode b_K_partOf 7 = .ok (.aload_n 0, 1) := by decide +kernel
theorem d_K_partOf_8 : decode b_K_partOf 8 = .ok (.checkcast 206, 3) := by decide +kernel
theorem d_K_partOf_11 : decode b_K_partOf 11 = .ok (.goto 4, 3) := by decide +kernel
theorem d_K_partOf_14 : decode b_K_partOf 14 = .ok (.aconst_null, 1) := by decide +kernel
theorem d_K_partOf_15 : decode b_K_partOf 15 = .ok (.astore_n 3, 1) := by decide +kernel
theorem d_K_partOf_16 : decode b_K_partOf 16 = .ok (.new 206, 3) := by decide +kernel
theorem d_K_partOf_19 : decode b_K_partOf 19 = .ok (.dup, 1) := by decide +kernel
theorem d_K_partOf_20 : decode b_K_partOf 20 = .ok (.aload_n 0, 1) := by decide +kernel
theorem d_K_partOf_21 : decode b_K_partOf 21 = .ok (.getfield 95, 3) := by decide +kernel
theorem d_K_partOf_24 : decode b_K_partOf 24 = .ok (.aload_n 3, 1) := by decide +kernel
theorem d_K_partOf_25 : decode b_K_partOf 25 = .ok (.aload_n 0, 1) := by decide +kernel
theorem d_K_partOf_26 : decode b_K_partOf 26 = .ok (.invokevirtual 208, 3) := by decide +kernel
theorem d_K_partOf_29 : decode b_K_partOf 29 = .ok (.iload_n 1, 1) := by decide +kernel
theorem d_K_partOf_30 : decode b_K_partOf 30 = .ok (.iadd, 1) := by decide +kernel
theorem d_K_partOf_31 : decode b_K_partOf 31 = .ok (.iload_n 2, 1) := by decide +kernel
theorem d_K_partOf_32 : decode b_K_partOf 32 = .ok (.iload_n 1, 1) := by decide +kernel
theorem d_K_partOf_33 : decode b_K_partOf 33 = .ok (.isub, 1) := by decide +kernel
theorem d_K_partOf_34 : decode b_K_partOf 34 = .ok (.invokespecial 211, 3) := by decide +kernel
theorem d_K_partOf_37 : decode b_K_partOf 37 = .ok (.areturn, 1) := by decide +kernel
theorem d_K_rangeOf_0 : decode b_K_rangeOf 0 = .ok (.aload_n 0, 1) := by decide +kernel
theorem d_K_rangeOf_1 : decode b_K_rangeOf 1 = .ok (.instanceof 214, 3) := by decide +kernel
theorem d_K_rangeOf_4 : decode b_K_rangeOf 4 = .ok (.ifCond .eq 36, 3) := by decide +kernel
theorem d_K_rangeOf_7 : decode b_K_rangeOf 7 = .ok (.aload_n 0, 1) := by decide +kernel
theorem d_K_rangeOf_8 : decode b_K_rangeOf 8 = .ok (.checkcast 214, 3) := by decide +kernel
theorem d_K_rangeOf_11 : decode b_K_rangeOf 11 = .ok (.astore_n 3, 1) := by decide +kernel
theorem d_K_rangeOf_12 : decode b_K_rangeOf 12 = .ok (.new 214, 3) := by decide +kernel
theorem d_K_rangeOf_15 : decode b_K_rangeOf 15 = .ok (.dup, 1) := by decide +kernel
theorem d_K_rangeOf_16 : decode b_K_rangeOf 16 = .ok (.aload_n 3, 1) := by decide +kernel
theorem d_K_rangeOf_17 : decode b_K_rangeOf 17 = .ok (.getfield 216, 3) := by decide +kernel
theorem d_K_rangeOf_20 : decode b_K_rangeOf 20 = .ok (.iload_n 1, 1) := by decide +kernel
theorem d_K_rangeOf_21 : decode b_K_rangeOf 21 = .ok (.aload_n 3, 1) := by decide +kernel
theorem d_K_rangeOf_22 : decode b_K_rangeOf 22 = .ok (.getfield 217, 3) := by decide +kernel
theorem d_K_rangeOf_25 : decode b_K_rangeOf 25 = .ok (.invokestatic 220, 3) := by decide +kernel
theorem d_K_rangeOf_28 : decode b_K_rangeOf 28 = .ok (.iload_n 2, 1) := by decide +kernel
theorem d_K_rangeOf_29 : decode b_K_rangeOf 29 = .ok (.aload_n 3, 1) := by decide +kernel
theorem d_K_rangeOf_30 : decode b_K_rangeOf 30 = .ok (.getfield 225, 3) := by decide +kernel
theorem d_K_rangeOf_33 : decode b_K_rangeOf 33 = .ok (.invokestatic 228, 3) := by decide +kernel
theorem d_K_rangeOf_36 : decode b_K_rangeOf 36 = .ok (.invokespecial 231, 3) := by decide +kernel
theorem d_K_rangeOf_39 : decode b_K_rangeOf 39 = .ok (.areturn, 1) := by decide +kernel
theorem d_K_rangeOf_40 : decode b_K_rangeOf 40 = .ok (.new 214, 3) := by decide +kernel
theorem d_K_rangeOf_43 : decode b_K_rangeOf 43 = .ok (.dup, 1) := by decide +kernel
theorem d_K_rangeOf_44 : decode b_K_rangeOf 44 = .ok (.aload_n 0, 1) := by decide +kernel
theorem d_K_rangeOf_45 : decode b_K_rangeOf 45 = .ok (.getfield 95, 3) := by decide +kernel
theorem d_K_rangeOf_48 : decode b_K_rangeOf 48 = .ok (.iload_n 1, 1) := by decide +kernel
theorem d_K_rangeOf_49 : decode b_K_rangeOf 49 = .ok (.iload_n 2, 1) := by decide +kernel
theorem d_K_rangeOf_50 : decode b_K_rangeOf 50 = .ok (.invokespecial 231, 3) := by decide +kernel
theorem d_K_rangeOf_53 : decode b_K_rangeOf 53 = .ok (.areturn, 1) := by decide +kernel
theorem d_K_demandOneMoreContainer_0 : decode b_K_demandOneMoreContainer 0 = .ok (.aload_n 0, 1) := by decide +kernel
theorem d_K_demandOneMoreContainer_1 : decode b_K_demandOneMoreContainer 1 = .ok (.getfield 21, 3) := by decide +kernel
theorem d_K_demandOneMoreContainer_4 : decode b_K_demandOneMoreContainer 4 = .ok (.aload_n 0, 1) := by decide +kernel
theorem d_K_demandOneMoreContainer_5 : decode b_K_demandOneMoreContainer 5 = .ok (.getfield 11, 3) := by decide +kernel
theorem d_K_demandOneMoreContainer_8 : decode b_K_demandOneMoreContainer 8 = .ok (.arraylength, 1) := by decide +kernel
theorem d_K_demandOneMoreContainer_9 : decode b_K_demandOneMoreContainer 9 = .ok (.if_icmp .lt 13, 3) := by decide +kernel
theorem d_K_demandOneMoreContainer_12 : decode b_K_demandOneMoreContainer 12 = .ok (.new 234, 3) := by decide +kernel
theorem d_K_demandOneMoreContainer_15 : decode b_K_demandOneMoreContainer 15 = .ok (.dup, 1) := by decide +kernel
theorem d_K_demandOneMoreContainer_16 : decode b_K_demandOneMoreContainer 16 = .ok (.ldc 236, 2) := by decide +kernel
theorem d_K_demandOneMoreContainer_18 : decode b_K_demandOneMoreContainer 18 = .ok (.invokespecial 238, 3) := by decide +kernel
theorem d_K_demandOneMoreContainer_21 : decode b_K_demandOneMoreContainer 21 = .ok (.athrow, 1) := by decide +kernel
theorem d_K_demandOneMoreContainer_22 : decode b_K_demandOneMoreContainer 22 = .ok (.return_, 1) := by decide +kernel
theorem d_K_demandKind_0 : decode b_K_demandKind 0 = .ok (.iload_n 0, 1) := by decide +kernel
theorem d_K_demandKind_1 : decode b_K_demandKind 1 = .ok (.ifCond .ne 13, 3) := by decide +kernel
theorem d_K_demandKind_4 : decode b_K_demandKind 4 = .ok (.new 239, 3) := by decide +kernel
theorem d_K_demandKind_7 : decode b_K_demandKind 7 = .ok (.dup, 1) := by decide +kernel
theorem d_K_demandKind_8 : decode b_K_demandKind 8 = .ok (.ldc 241, 2) := by decide +kernel
theorem d_K_demandKind_10 : decode b_K_demandKind 10 = .ok (.invokespecial 243, 3) := by decide +kernel
theorem d_K_demandKind_13 : decode b_K_demandKind 13 = .ok (.athrow, 1) := by decide +kernel
theorem d_K_demandKind_14 : decode b_K_demandKind 14 = .ok (.return_, 1) := by decide +kernel
theorem d_K_demandArgument_0 : decode b_K_demandArgument 0 = .ok (.iload_n 0, 1) := by decide +kernel
theorem d_K_demandArgument_1 : decode b_K_demandArgument 1 = .ok (.ifCond .ne 13, 3) := by decide +kernel
theorem d_K_demandArgument_4 : decode b_K_demandArgument 4 = .ok (.new 244, 3) := by decide +kernel
theorem d_K_demandArgument_7 : decode b_K_demandArgument 7 = .ok (.dup, 1) := by decide +kernel
theorem d_K_demandArgument_8 : decode b_K_demandArgument 8 = .ok (.ldc 246, 2) := by decide +kernel
theorem d_K_demandArgument_10 : decode b_K_demandArgument 10 = .ok (.invokespecial 248, 3) := by decide +kernel
theorem d_K_demandArgument_13 : decode b_K_demandArgument 13 = .ok (.athrow, 1) := by decide +kernel
theorem d_K_demandArgument_14 : decode b_K_demandArgument 14 = .ok (.return_, 1) := by decide +kernel
theorem d_K_demandThere_0 : decode b_K_demandThere 0 = .ok (.iload_n 0, 1) := by decide +kernel
theorem d_K_demandThere_1 : decode b_K_demandThere 1 = .ok (.ifCond .ne 13, 3) := by decide +kernel
theorem d_K_demandThere_4 : decode b_K_demandThere 4 = .ok (.new 249, 3) := by decide +kernel
theorem d_K_demandThere_7 : decode b_K_demandThere 7 = .ok (.dup, 1) := by decide +kernel
theorem d_K_demandThere_8 : decode b_K_demandThere 8 = .ok (.ldc 251, 2) := by decide +kernel
theorem d_K_demandThere_10 : decode b_K_demandThere 10 = .ok (.invokespecial 253, 3) := by decide +kernel
theorem d_K_demandThere_13 : decode b_K_demandThere 13 = .ok (.athrow, 1) := by decide +kernel
theorem d_K_demandThere_14 : decode b_K_demandThere 14 = .ok (.return_, 1) := by decide +kernel
theorem d_K_demandFresh_0 : decode b_K_demandFresh 0 = .ok (.aload_n 0, 1) := by decide +kernel
theorem d_K_demandFresh_1 : decode b_K_demandFresh 1 = .ok (.invokevirtual 254, 3) := by decide +kernel
theorem d_K_demandFresh_4 : decode b_K_demandFresh 4 = .ok (.ifCond .eq 14, 3) := by decide +kernel
theorem d_K_demandFresh_7 : decode b_K_demandFresh 7 = .ok (.new 257, 3) := by decide +kernel
theorem d_K_demandFresh_10 : decode b_K_demandFresh 10 = .ok (.dup, 1) := by decide +kernel
theorem d_K_demandFresh_11 : decode b_K_demandFresh 11 = .ok (.ldc_w 259, 3) := by decide +kernel
theorem d_K_demandFresh_14 : decode b_K_demandFresh 14 = .ok (.invokespecial 261, 3) := by decide +kernel
theorem d_K_demandFresh_17 : decode b_K_demandFresh 17 = .ok (.athrow, 1) := by decide +kernel
theorem d_K_demandFresh_18 : decode b_K_demandFresh 18 = .ok (.return_, 1) := by decide +kernel
theorem d_K_demandFreshWalk_0 : decode b_K_demandFreshWalk 0 = .ok (.aload_n 0, 1) := by decide +kernel
theorem d_K_demandFreshWalk_1 : decode b_K_demandFreshWalk 1 = .ok (.invokevirtual 262, 3) := by decide +kernel
theorem d_K_demandFreshWalk_4 : decode b_K_demandFreshWalk 4 = .ok (.ifCond .eq 14, 3) := by decide +kernel
theorem d_K_demandFreshWalk_7 : decode b_K_demandFreshWalk 7 = .ok (.new 257, 3) := by decide +kernel
theorem d_K_demandFreshWalk_10 : decode b_K_demandFreshWalk 10 = .ok (.dup, 1) := by decide +kernel
theorem d_K_demandFreshWalk_11 : decode b_K_demandFreshWalk 11 = .ok (.ldc_w 263, 3) := by decide +kernel
theorem d_K_demandFreshWalk_14 : decode b_K_demandFreshWalk 14 = .ok (.invokespecial 261, 3) := by decide +kernel
theorem d_K_demandFreshWalk_17 : decode b_K_demandFreshWalk 17 = .ok (.athrow, 1) := by decide +kernel
theorem d_K_demandFreshWalk_18 : decode b_K_demandFreshWalk 18 = .ok (.return_, 1) := by decide +kernel
theorem d_K_demandSpace_0 : decode b_K_demandSpace 0 = .ok (.aload_n 0, 1) := by decide +kernel
theorem d_K_demandSpace_1 : decode b_K_demandSpace 1 = .ok (.invokevirtual 265, 3) := by decide +kernel
theorem d_K_demandSpace_4 : decode b_K_demandSpace 4 = .ok (.ifCond .eq 14, 3) := by decide +kernel
theorem d_K_demandSpace_7 : decode b_K_demandSpace 7 = .ok (.new 234, 3) := by decide +kernel
theorem d_K_demandSpace_10 : decode b_K_demandSpace 10 = .ok (.dup, 1) := by decide +kernel
theorem d_K_demandSpace_11 : decode b_K_demandSpace 11 = .ok (.ldc_w 268, 3) := by decide +kernel
theorem d_K_demandSpace_14 : decode b_K_demandSpace 14 = .ok (.invokespecial 238, 3) := by decide +kernel
theorem d_K_demandSpace_17 : decode b_K_demandSpace 17 = .ok (.athrow, 1) := by decide +kernel
theorem d_K_demandSpace_18 : decode b_K_demandSpace 18 = .ok (.return_, 1) := by decide +kernel
theorem d_K_demandKeyFits_0 : decode b_K_demandKeyFits 0 = .ok (.aload_n 0, 1) := by decide +kernel
theorem d_K_demandKeyFits_1 : decode b_K_demandKeyFits 1 = .ok (.iload_n 1, 1) := by decide +kernel
theorem d_K_demandKeyFits_2 : decode b_K_demandKeyFits 2 = .ok (.invokevirtual 270, 3) := by decide +kernel
theorem d_K_demandKeyFits_5 : decode b_K_demandKeyFits 5 = .ok (.invokestatic 26, 3) := by decide +kernel
theorem d_K_demandKeyFits_8 : decode b_K_demandKeyFits 8 = .ok (.aload_n 0, 1) := by decide +kernel
theorem d_K_demandKeyFits_9 : decode b_K_demandKeyFits 9 = .ok (.iload_n 1, 1) := by decide +kernel
theorem d_K_demandKeyFits_10 : decode b_K_demandKeyFits 10 = .ok (.invokevirtual 126, 3) := by decide +kernel
theorem d_K_demandKeyFits_13 : decode b_K_demandKeyFits 13 = .ok (.iconst (-1), 1) := by decide +kernel
theorem d_K_demandKeyFits_14 : decode b_K_demandKeyFits 14 = .ok (.if_icmp .ne 10, 3) := by decide +kernel
theorem d_K_demandKeyFits_17 : decode b_K_demandKeyFits 17 = .ok (.aload_n 0, 1) := by decide +kernel
theorem d_K_demandKeyFits_18 : decode b_K_demandKeyFits 18 = .ok (.getfield 95, 3) := by decide +kernel
theorem d_K_demandKeyFits_21 : decode b_K_demandKeyFits 21 = .ok (.invokestatic 99, 3) := by decide +kernel
theorem d_K_demandKeyFits_24 : decode b_K_demandKeyFits 24 = .ok (.return_, 1) := by decide +kernel
end
section
/-! PART ctx: the start's facts in one word; private methods' selects; small laws of numbers -/
theorem qs_K_demandOneMoreContainer : Cond.selects R_K y_K_demandOneMoreContainer y_K_demandOneMoreContainer ∈ lw_tbl := List.mem_append_left _ (List.mem_of_getElem? (i := 1) rfl)
theorem qs_K_keepContainer : Cond.selects R_K y_K_keepContainer y_K_keepContainer ∈ lw_tbl := List.mem_append_left _ (List.mem_of_getElem? (i := 2) rfl)
theorem qs_K_containerAt : Cond.selects R_K y_K_containerAt y_K_containerAt ∈ lw_tbl := List.mem_append_left _ (List.mem_of_getElem? (i := 3) rfl)
theorem qs_K_freshList : Cond.selects R_K y_K_freshList y_K_freshList ∈ lw_tbl := List.mem_append_left _ (List.mem_of_getElem? (i := 4) rfl)
theorem qs_K_freshListOrHeap : Cond.selects R_K y_K_freshListOrHeap y_K_freshListOrHeap ∈ lw_tbl := List.mem_append_left _ (List.mem_of_getElem? (i := 5) rfl)
theorem qs_S_closeGap : Cond.selects R_S y_S_closeGap y_S_closeGap ∈ lw_tbl := List.mem_append_left _ (List.mem_of_getElem? (i := 6) rfl)
theorem qs_K_mapAt : Cond.selects R_K y_K_mapAt y_K_mapAt ∈ lw_tbl := List.mem_append_left _ (List.mem_of_getElem? (i := 7) rfl)
theorem qs_S_bringKeyIn : Cond.selects R_S y_S_bringKeyIn y_S_bringKeyIn ∈ lw_tbl := List.mem_append_left _ (List.mem_of_getElem? (i := 8) rfl)
theorem qs_S_bucketOf : Cond.selects R_S y_S_bucketOf y_S_bucketOf ∈ lw_tbl := List.mem_append_left _ (List.mem_of_getElem? (i := 9) rfl)
theorem qs_K_walkAt : Cond.selects R_K y_K_walkAt y_K_walkAt ∈ lw_tbl := List.mem_append_left _ (List.mem_of_getElem? (i := 10) rfl)
theorem qs_K_openedWalkAt : Cond.selects R_K y_K_openedWalkAt y_K_openedWalkAt ∈ lw_tbl := List.mem_append_left _ (List.mem_of_getElem? (i := 11) rfl)
theorem qs_M_make : Cond.selects R_M y_M_make y_M_make ∈ lw_tbl := List.mem_append_left _ (List.mem_of_getElem? (i := 12) rfl)
theorem qs_M_isThere : Cond.selects R_M y_M_isThere y_M_isThere ∈ lw_tbl := List.mem_append_left _ (List.mem_of_getElem? (i := 13) rfl)
theorem qs_M_isList : Cond.selects R_M y_M_isList y_M_isList ∈ lw_tbl := List.mem_append_left _ (List.mem_of_getElem? (i := 14) rfl)
theorem qs_M_isTree : Cond.selects R_M y_M_isTree y_M_isTree ∈ lw_tbl := List.mem_append_left _ (List.mem_of_getElem? (i := 15) rfl)
theorem qs_M_isStale : Cond.selects R_M y_M_isStale y_M_isStale ∈ lw_tbl := List.mem_append_left _ (List.mem_of_getElem? (i := 16) rfl)
theorem qs_M_sizeOf : Cond.selects R_M y_M_sizeOf y_M_sizeOf ∈ lw_tbl := List.mem_append_left _ (List.mem_of_getElem? (i := 17) rfl)
theorem qs_M_isIn : Cond.selects R_M y_M_isIn y_M_isIn ∈ lw_tbl := List.mem_append_left _ (List.mem_of_getElem? (i := 18) rfl)
theorem qs_M_placeIn : Cond.selects R_M y_M_placeIn y_M_placeIn ∈ lw_tbl := List.mem_append_left _ (List.mem_of_getElem? (i := 19) rfl)
theorem qs_M_checkList : Cond.selects R_M y_M_checkList y_M_checkList ∈ lw_tbl := List.mem_append_left _ (List.mem_of_getElem? (i := 20) rfl)
theorem qs_M_at : Cond.selects R_M y_M_at y_M_at ∈ lw_tbl := List.mem_append_left _ (List.mem_of_getElem? (i := 21) rfl)
theorem qs_M_putIn : Cond.selects R_M y_M_putIn y_M_putIn ∈ lw_tbl := List.mem_append_left _ (List.mem_of_getElem? (i := 22) rfl)
theorem qs_M_changed : Cond.selects R_M y_M_changed y_M_changed ∈ lw_tbl := List.mem_append_left _ (List.mem_of_getElem? (i := 23) rfl)
theorem qs_M_insertAt : Cond.selects R_M y_M_insertAt y_M_insertAt ∈ lw_tbl := List.mem_append_left _ (List.mem_of_getElem? (i := 24) rfl)
theorem qs_M_takeOut : Cond.selects R_M y_M_takeOut y_M_takeOut ∈ lw_tbl := List.mem_append_left _ (List.mem_of_getElem? (i := 25) rfl)
theorem qs_M_lookUp : Cond.selects R_M y_M_lookUp y_M_lookUp ∈ lw_tbl := List.mem_append_left _ (List.mem_of_getElem? (i := 26) rfl)
theorem qs_M_checkMap : Cond.selects R_M y_M_checkMap y_M_checkMap ∈ lw_tbl := List.mem_append_left _ (List.mem_of_getElem? (i := 27) rfl)
theorem qs_M_isMap : Cond.selects R_M y_M_isMap y_M_isMap ∈ lw_tbl := List.mem_append_left _ (List.mem_of_getElem? (i := 28) rfl)
theorem qs_M_find : Cond.selects R_M y_M_find y_M_find ∈ lw_tbl := List.mem_append_left _ (List.mem_of_getElem? (i := 29) rfl)
theorem qs_M_add : Cond.selects R_M y_M_add y_M_add ∈ lw_tbl := List.mem_append_left _ (List.mem_of_getElem? (i := 30) rfl)
theorem qs_M_hashes : Cond.selects R_M y_M_hashes y_M_hashes ∈ lw_tbl := List.mem_append_left _ (List.mem_of_getElem? (i := 31) rfl)
theorem qs_M_freshen : Cond.selects R_M y_M_freshen y_M_freshen ∈ lw_tbl := List.mem_append_left _ (List.mem_of_getElem? (i := 32) rfl)
theorem qs_M_fail : Cond.selects R_M y_M_fail y_M_fail ∈ lw_tbl := List.mem_append_left _ (List.mem_of_getElem? (i := 33) rfl)
theorem qs_M_isOpen : Cond.selects R_M y_M_isOpen y_M_isOpen ∈ lw_tbl := List.mem_append_left _ (List.mem_of_getElem? (i := 34) rfl)
theorem qs_M_isLost : Cond.selects R_M y_M_isLost y_M_isLost ∈ lw_tbl := List.mem_append_left _ (List.mem_of_getElem? (i := 35) rfl)
theorem qs_M_checkLatest : Cond.selects R_M y_M_checkLatest y_M_checkLatest ∈ lw_tbl := List.mem_append_left _ (List.mem_of_getElem? (i := 36) rfl)
theorem qs_M_settle : Cond.selects R_M y_M_settle y_M_settle ∈ lw_tbl := List.mem_append_left _ (List.mem_of_getElem? (i := 37) rfl)
abbrev kca : Type := ClassId × ClassId × ClassId × ClassId
abbrev ktys (ca : kca) : List (ClassId × FieldType) := [(ca.1, .int), (ca.2.1, .object "ContainerKit$Container"), (ca.2.2.1, .object "ContainerKit$Walk"), (ca.2.2.2, .long)]
/-- what is known of the start z: the table's words, the classes and array classes -/
def kcx (l : Launch) (z : State) (a0 : Array Value) (D : va_G) (ca : kca) : Prop := (∀ w ∈ lw_tbl, w.before a0 z = true) ∧ va_K D kcl (ktys ca) z ∧ (Jvm.Cond.and given_1 narrow_1).before a0 z = true ∧ l.stackTraces = false
theorem yy_tope {b : yy_T} {H : Heap} {locs : List Loc} {k : Nat × Nat} {pc : Nat} {lv : List (Nat × Value)} {st : List Value} {x y : Int32} (h : x = y) (kk : yy_Y b H locs k pc lv (.int y :: st)) : yy_Y b H locs k pc lv (.int x :: st) := by
  rw [h]; exact kk
/-- a store of numbers: its object and its two rows -/
def st_at (D : va_G) (ca : kca) (H : Heap) (a na va : Nat) (kd rm ch : Int32) (n : Nat) (nf vf : Nat → Int32) : Prop :=
  va_at D kcl (a, .inr (0, [.int kd, .ref na, .ref va, .int (nI n), .int rm, .int ch])) H ∧ va_at D kcl (na, .inl (ca.1, 24, .inl nf)) H ∧ va_at D kcl (va, .inl (ca.1, 24, .inl vf)) H
theorem ym_lt {a k : Nat} {b : Int32} (hb : b.toInt = (k : Int)) (ha : a < 2 ^ 31) : nI a < b ↔ a < k := by
  rw [Int32.lt_iff_toInt_lt, nI_toInt ha, hb]; omega
theorem ym_gt {a k : Nat} {b : Int32} (hb : b.toInt = (k : Int)) (ha : a < 2 ^ 31) : b < nI a ↔ k < a := by
  rw [Int32.lt_iff_toInt_lt, nI_toInt ha, hb]; omega
theorem ym_le {a k : Nat} {b : Int32} (hb : b.toInt = (k : Int)) (ha : a < 2 ^ 31) : nI a ≤ b ↔ a ≤ k := by
  rw [Int32.le_iff_toInt_le, nI_toInt ha, hb]; omega
theorem ym_ge {a k : Nat} {b : Int32} (hb : b.toInt = (k : Int)) (ha : a < 2 ^ 31) : b ≤ nI a ↔ k ≤ a := by
  rw [Int32.le_iff_toInt_le, nI_toInt ha, hb]; omega
/-- an int between 0 and a small number -/
theorem ym_held {p : Int32} {n : Nat} (hn : n < 2 ^ 31) (h0 : ¬ p < 0) (h1 : p < nI n) : ∃ j : Nat, j < n ∧ p = nI j := by
  obtain ⟨j, hj, rfl⟩ := nI_of h0
  exact ⟨j, (nI_ltI hj hn).mp h1, rfl⟩
/-- is p a place of n -/
def ym_in (p : Int32) (n : Nat) : Prop := ¬ p < 0 ∧ p < nI n
theorem ym_in.of {j n : Nat} (h : j < n) (hn : n < 2 ^ 31) : ym_in (nI j) n := ⟨nI_pos (by omega), nI_lt h hn⟩
theorem ym_in.nat {p : Int32} {n : Nat} (hn : n < 2 ^ 31) (h : ym_in p n) : ∃ j : Nat, j < n ∧ p = nI j := ym_held hn h.1 h.2
theorem ym_in.vp {p : Int32} {n m : Nat} (h : ym_in p n) (hn : n ≤ m) (hm : m < 2 ^ 31) : vp_in p m := by
  obtain ⟨j, hj, rfl⟩ := h.nat (by omega)
  exact vp_in_nI (by omega) hm
def ym_inb (p : Int32) (n : Nat) : Bool := !decide (p < 0) && decide (p < nI n)
theorem ym_inb_t {p : Int32} {n : Nat} (h : ym_in p n) : ym_inb p n = true := by simp [ym_inb, h.1, h.2]
theorem ym_inb_f {p : Int32} {n : Nat} (h : ¬ ym_in p n) : ym_inb p n = false := by
  unfold ym_in at h
  unfold ym_inb
  by_cases h1 : p < 0
  · simp [h1]
  · by_cases h2 : p < nI n
    · exact absurd ⟨h1, h2⟩ h
    · simp [h2]
/-- a truth as a number -/
def ym_n (c : Bool) : Int32 := if c then 1 else 0
theorem ym_nt {c : Bool} (h : c = true) : ym_n c = 1 := by rw [h]; rfl
theorem ym_nf {c : Bool} (h : c = false) : ym_n c = 0 := by rw [h]; rfl
end
section
/-! PART S1: what a store answers: isFull, isHeld, numberAt, valueAt -/
set_option maxRecDepth 100000 in
set_option maxHeartbeats 4000000 in
/-- whether the rows are full -/
theorem c_S_isFull {l : Launch} {z : State} {a0 : Array Value} {D : va_G} {ca : kca} (X : kcx l z a0 D ca) {a na va n : Nat} {kd rm ch : Int32} {nf vf : Nat → Int32} (hn : n ≤ 24)  : yy_M l z y_S_isFull (.code y_S_isFull b_S_isFull 1 (some .boolean)) ({ frames := 0, cells := 0, slots := 0, locals := 0 }) [.ref a] (fun H => st_at D ca H a na va kd rm ch n nf vf) (yy_ri (ym_n (decide (24 ≤ n)))) := by
  refine yy_body (plainFor_of_name (by decide)) (Nat.le_of_ble_eq_true rfl) (fun b H F hS hP hH hnm => ?_)
  obtain ⟨hO, hN, hV⟩ := id hP
  refine yy_aload_n F d_S_isFull_0 (n := 1) rfl 0 rfl ?_
  refine yy_get F X.1 X.2.1 g_S_18_S hO rfl d_S_isFull_1 (n := 4) rfl ?_
  refine yy_aload_n F d_S_isFull_4 (n := 5) rfl 0 rfl ?_
  refine yy_get F X.1 X.2.1 g_S_9_S hO rfl d_S_isFull_5 (n := 8) rfl ?_
  refine yy_alen F X.2.1 0 rfl hN (x := 24) rfl d_S_isFull_8 (n := 9) rfl ?_
  refine yy_ic_lt (tgt := 16) F d_S_isFull_9 (n := 12) rfl (by decide) (fun h => ?_) (fun h => ?_)
  · refine yy_iconst (v := 0) F d_S_isFull_16 (n := 17) rfl rfl ?_
    exact yy_zret F hS ⟨Nat.zero_le _, Nat.zero_le _⟩ rfl rfl d_S_isFull_17 (⟨0, rfl, (ym_nf (decide_eq_false (fun q => by have := (ym_lt (k := 24) rfl (by omega)).mp h; omega))).symm, rfl⟩)
  · refine yy_iconst (v := 1) F d_S_isFull_12 (n := 13) rfl rfl ?_
    refine yy_goto (tgt := 17) F d_S_isFull_13 (by decide) ?_
    exact yy_zret F hS ⟨Nat.zero_le _, Nat.zero_le _⟩ rfl rfl d_S_isFull_17 (⟨1, rfl, (ym_nt (decide_eq_true (by have := mt (ym_lt (k := 24) rfl (by omega)).mpr h; omega))).symm, rfl⟩)
set_option maxRecDepth 100000 in
set_option maxHeartbeats 4000000 in
/-- whether a place is one of the held -/
theorem c_S_isHeld {l : Launch} {z : State} {a0 : Array Value} {D : va_G} {ca : kca} (X : kcx l z a0 D ca) {a na va n : Nat} {kd rm ch : Int32} {nf vf : Nat → Int32} (hn : n ≤ 24) {p : Int32} : yy_M l z y_S_isHeld (.code y_S_isHeld b_S_isHeld 2 (some .boolean)) ({ frames := 0, cells := 0, slots := 0, locals := 0 }) [.ref a, .int p] (fun H => st_at D ca H a na va kd rm ch n nf vf) (yy_ri (ym_n (ym_inb p n))) := by
  refine yy_body (plainFor_of_name (by decide)) (Nat.le_of_ble_eq_true rfl) (fun b H F hS hP hH hnm => ?_)
  obtain ⟨hO, hN, hV⟩ := id hP
  refine yy_iload_n F d_S_isHeld_0 (n := 1) rfl 1 rfl ?_
  refine yy_if_lt (tgt := 16) F d_S_isHeld_1 (n := 4) rfl (by decide) (fun h => ?_) (fun h => ?_)
  · refine yy_iconst (v := 0) F d_S_isHeld_16 (n := 17) rfl rfl ?_
    exact yy_zret F hS ⟨Nat.zero_le _, Nat.zero_le _⟩ rfl rfl d_S_isHeld_17 (⟨0, rfl, (ym_nf (ym_inb_f (fun q => q.1 h))).symm, rfl⟩)
  · refine yy_iload_n F d_S_isHeld_4 (n := 5) rfl 1 rfl ?_
    refine yy_aload_n F d_S_isHeld_5 (n := 6) rfl 0 rfl ?_
    refine yy_get F X.1 X.2.1 g_S_18_S hO rfl d_S_isHeld_6 (n := 9) rfl ?_
    refine yy_ic_ge (tgt := 16) F d_S_isHeld_9 (n := 12) rfl (by decide) (fun h2 => ?_) (fun h2 => ?_)
    · refine yy_iconst (v := 0) F d_S_isHeld_16 (n := 17) rfl rfl ?_
      exact yy_zret F hS ⟨Nat.zero_le _, Nat.zero_le _⟩ rfl rfl d_S_isHeld_17 (⟨0, rfl, (ym_nf (ym_inb_f (fun q => absurd q.2 (Int32.not_lt.mpr h2)))).symm, rfl⟩)
    · refine yy_iconst (v := 1) F d_S_isHeld_12 (n := 13) rfl rfl ?_
      refine yy_goto (tgt := 17) F d_S_isHeld_13 (by decide) ?_
      exact yy_zret F hS ⟨Nat.zero_le _, Nat.zero_le _⟩ rfl rfl d_S_isHeld_17 (⟨1, rfl, (ym_nt (ym_inb_t ⟨h, Int32.not_le.mp h2⟩)).symm, rfl⟩)
set_option maxRecDepth 100000 in
set_option maxHeartbeats 4000000 in
/-- the number at a held place, else 0 -/
theorem c_S_numberAt {l : Launch} {z : State} {a0 : Array Value} {D : va_G} {ca : kca} (X : kcx l z a0 D ca) {a na va n : Nat} {kd rm ch : Int32} {nf vf : Nat → Int32} (hn : n ≤ 24) {p : Int32} : yy_M l z y_S_numberAt (.code y_S_numberAt b_S_numberAt 2 (some .int)) ({ frames := 1, cells := 0, slots := 0, locals := 21 }) [.ref a, .int p] (fun H => st_at D ca H a na va kd rm ch n nf vf) (yy_ri (if ym_inb p n then nf p.toNatClampNeg else 0)) := by
  refine yy_body (plainFor_of_name (by decide)) (Nat.le_of_ble_eq_true rfl) (fun b H F hS hP hH hnm => ?_)
  obtain ⟨hO, hN, hV⟩ := id hP
  by_cases hp : ym_in p n
  · refine yy_aload_n F d_S_numberAt_0 (n := 1) rfl 0 rfl ?_
    refine yy_iload_n F d_S_numberAt_1 (n := 2) rfl 1 rfl ?_
    refine yy_cri (w := 1) F hS (c_S_isHeld (p := p) X hn) (yy_Bc F X.1 q_461 q_11) (yy_invV (nA := 1) (C := R_S) (bytes := b_S_isHeld) (maxL := 2) (retY := (some .boolean)) F X.1 q_458 q_459 q_460 q_461 ⟨by decide, by decide, by decide +kernel⟩ (yy_recv F.N X.2.1 (ci := 0) rfl hO) rfl d_S_numberAt_2) d_S_numberAt_2 (n := 5) rfl (by simp [Value.category]) ⟨by decide, by decide⟩ ⟨Nat.le_refl _, Nat.le_refl _⟩ ⟨rfl, rfl⟩ hP (ym_nt (ym_inb_t hp)) (fun _ hS_1 => ?_)
    refine yy_if_eq_f (tgt := 17) F d_S_numberAt_5 (n := 8) rfl (by decide) (by decide) ?_
    refine yy_aload_n F d_S_numberAt_8 (n := 9) rfl 0 rfl ?_
    refine yy_get F X.1 X.2.1 g_S_9_S hO rfl d_S_numberAt_9 (n := 12) rfl ?_
    refine yy_iload_n F d_S_numberAt_12 (n := 13) rfl 1 rfl ?_
    refine yy_iald F X.2.1 0 rfl hN (hp.vp hn (by decide)) d_S_numberAt_13 (n := 14) rfl ?_
    refine yy_goto (tgt := 18) F d_S_numberAt_14 (by decide) ?_
    exact yy_iret F hS_1 ⟨Nat.zero_le _, Nat.zero_le _⟩ rfl d_S_numberAt_18 (⟨_, rfl, by rw [ym_inb_t hp]; rfl, rfl⟩)
  · refine yy_aload_n F d_S_numberAt_0 (n := 1) rfl 0 rfl ?_
    refine yy_iload_n F d_S_numberAt_1 (n := 2) rfl 1 rfl ?_
    refine yy_cri (w := 0) F hS (c_S_isHeld (p := p) X hn) (yy_Bc F X.1 q_461 q_11) (yy_invV (nA := 1) (C := R_S) (bytes := b_S_isHeld) (maxL := 2) (retY := (some .boolean)) F X.1 q_458 q_459 q_460 q_461 ⟨by decide, by decide, by decide +kernel⟩ (yy_recv F.N X.2.1 (ci := 0) rfl hO) rfl d_S_numberAt_2) d_S_numberAt_2 (n := 5) rfl (by simp [Value.category]) ⟨by decide, by decide⟩ ⟨Nat.le_refl _, Nat.le_refl _⟩ ⟨rfl, rfl⟩ hP (ym_nf (ym_inb_f hp)) (fun _ hS_2 => ?_)
    refine yy_if_eq_t (tgt := 17) F d_S_numberAt_5 (by decide) rfl ?_
    refine yy_iconst (v := 0) F d_S_numberAt_17 (n := 18) rfl rfl ?_
    exact yy_iret F hS_2 ⟨Nat.zero_le _, Nat.zero_le _⟩ rfl d_S_numberAt_18 (⟨_, rfl, by rw [ym_inb_f hp]; rfl, rfl⟩)
set_option maxRecDepth 100000 in
set_option maxHeartbeats 4000000 in
/-- the number at a held place, else 0 -/
theorem c_S_valueAt {l : Launch} {z : State} {a0 : Array Value} {D : va_G} {ca : kca} (X : kcx l z a0 D ca) {a na va n : Nat} {kd rm ch : Int32} {nf vf : Nat → Int32} (hn : n ≤ 24) {p : Int32} : yy_M l z y_S_valueAt (.code y_S_valueAt b_S_valueAt 2 (some .int)) ({ frames := 1, cells := 0, slots := 0, locals := 21 }) [.ref a, .int p] (fun H => st_at D ca H a na va kd rm ch n nf vf) (yy_ri (if ym_inb p n then vf p.toNatClampNeg else 0)) := by
  refine yy_body (plainFor_of_name (by decide)) (Nat.le_of_ble_eq_true rfl) (fun b H F hS hP hH hnm => ?_)
  obtain ⟨hO, hN, hV⟩ := id hP
  by_cases hp : ym_in p n
  · refine yy_aload_n F d_S_valueAt_0 (n := 1) rfl 0 rfl ?_
    refine yy_iload_n F d_S_valueAt_1 (n := 2) rfl 1 rfl ?_
    refine yy_cri (w := 1) F hS (c_S_isHeld (p := p) X hn) (yy_Bc F X.1 q_461 q_11) (yy_invV (nA := 1) (C := R_S) (bytes := b_S_isHeld) (maxL := 2) (retY := (some .boolean)) F X.1 q_458 q_459 q_460 q_461 ⟨by decide, by decide, by decide +kernel⟩ (yy_recv F.N X.2.1 (ci := 0) rfl hO) rfl d_S_valueAt_2) d_S_valueAt_2 (n := 5) rfl (by simp [Value.category]) ⟨by decide, by decide⟩ ⟨Nat.le_refl _, Nat.le_refl _⟩ ⟨rfl, rfl⟩ hP (ym_nt (ym_inb_t hp)) (fun _ hS_1 => ?_)
    refine yy_if_eq_f (tgt := 17) F d_S_valueAt_5 (n := 8) rfl (by decide) (by decide) ?_
    refine yy_aload_n F d_S_valueAt_8 (n := 9) rfl 0 rfl ?_
    refine yy_get F X.1 X.2.1 g_S_15_S hO rfl d_S_valueAt_9 (n := 12) rfl ?_
    refine yy_iload_n F d_S_valueAt_12 (n := 13) rfl 1 rfl ?_
    refine yy_iald F X.2.1 0 rfl hV (hp.vp hn (by decide)) d_S_valueAt_13 (n := 14) rfl ?_
    refine yy_goto (tgt := 18) F d_S_valueAt_14 (by decide) ?_
    exact yy_iret F hS_1 ⟨Nat.zero_le _, Nat.zero_le _⟩ rfl d_S_valueAt_18 (⟨_, rfl, by rw [ym_inb_t hp]; rfl, rfl⟩)
  · refine yy_aload_n F d_S_valueAt_0 (n := 1) rfl 0 rfl ?_
    refine yy_iload_n F d_S_valueAt_1 (n := 2) rfl 1 rfl ?_
    refine yy_cri (w := 0) F hS (c_S_isHeld (p := p) X hn) (yy_Bc F X.1 q_461 q_11) (yy_invV (nA := 1) (C := R_S) (bytes := b_S_isHeld) (maxL := 2) (retY := (some .boolean)) F X.1 q_458 q_459 q_460 q_461 ⟨by decide, by decide, by decide +kernel⟩ (yy_recv F.N X.2.1 (ci := 0) rfl hO) rfl d_S_valueAt_2) d_S_valueAt_2 (n := 5) rfl (by simp [Value.category]) ⟨by decide, by decide⟩ ⟨Nat.le_refl _, Nat.le_refl _⟩ ⟨rfl, rfl⟩ hP (ym_nf (ym_inb_f hp)) (fun _ hS_2 => ?_)
    refine yy_if_eq_t (tgt := 17) F d_S_valueAt_5 (by decide) rfl ?_
    refine yy_iconst (v := 0) F d_S_valueAt_17 (n := 18) rfl rfl ?_
    exact yy_iret F hS_2 ⟨Nat.zero_le _, Nat.zero_le _⟩ rfl d_S_valueAt_18 (⟨_, rfl, by rw [ym_inb_f hp]; rfl, rfl⟩)
end
section
/-! PART SR: writes to a store's cells; pure words for what its loops do -/
/-- only these cells have changed -/
def kp (L : List Nat) (H H1 : Heap) : Prop := H1.size = H.size ∧ ∀ q : Nat, q ∉ L → H1[q]? = H[q]?
theorem kp.rf {L : List Nat} {H : Heap} : kp L H H := ⟨rfl, fun _ _ => rfl⟩
theorem kp.tr {L : List Nat} {H H1 H2 : Heap} (h : kp L H H1) (h2 : kp L H1 H2) : kp L H H2 := ⟨h2.1.trans h.1, fun q hq => (h2.2 q hq).trans (h.2 q hq)⟩
theorem kp.mono {L L' : List Nat} {H H1 : Heap} (h : kp L H H1) (hL : ∀ q ∈ L, q ∈ L') : kp L' H H1 := ⟨h.1, fun q hq => h.2 q (fun h9 => hq (hL q h9))⟩
theorem kp.put {L : List Nat} {H0 H H1 : Heap} {a : Nat} (h : kp L H0 H) (ha : a ∈ L) (e2 : H1.size = H.size) (e3 : ∀ q : Nat, q ≠ a → H1[q]? = H[q]?) : kp L H0 H1 := ⟨e2.trans h.1, fun q hq => (e3 q (fun h9 => hq (h9 ▸ ha))).trans (h.2 q hq)⟩
theorem kp.at {L : List Nat} {H H1 : Heap} {D : va_G} {cl : List vw_C} {q : Nat × va_E} (h : kp L H H1) (hq : q.1 ∉ L) (O : va_at D cl q H) : va_at D cl q H1 := O.kept (h.2 q.1 hq)
/-- a store's three cells are apart, and behind the start -/
def st_ok (z : State) (a na va : Nat) : Prop := (z.heap.size ≤ a ∧ z.heap.size ≤ na ∧ z.heap.size ≤ va) ∧ na ≠ a ∧ va ≠ a ∧ va ≠ na
section SR
variable {l : Launch} {z : State} {b : yy_T} {rmM : Room} {cc : ByteArray} {nL : Nat} {own : String} {ret : Option FieldType} {hh : List (Nat × Nat × Nat × Nat)} {Post : yy_R → Heap → Prop}
variable {H H0 : Heap} {locs : List Loc} {k : Nat × Nat} {pc n' : Nat} {lv lv' : List (Nat × Value)} {st : List Value}
variable {a0 : Array Value} {D : va_G} {ca : kca} {a na va n idx : Nat} {kd rm ch x : Int32} {nf vf : Nat → Int32}
theorem sr_cnt (F : yy_A l z b rmM cc nL own ret hh Post) (X : kcx l z a0 D ca) (G : yy_G lw_tbl kcl own idx 0 3) (hS : yy_S z H locs) (ok : st_ok z a na va) (P : st_at D ca H a na va kd rm ch n nf vf) (hk : kp [a, na, va] H0 H) (m : Nat) (hm : x = nI m) (d : decode cc pc = .ok (.putfield idx, 3)) (hn : pc + 3 = n')
    (kk : ∀ (H1 : Heap) (locs1 : List Loc), st_at D ca H1 a na va kd rm ch m nf vf → kp [a, na, va] H0 H1 → yy_S z H1 locs1 → yy_Y b H1 locs1 k n' lv st) : yy_Y b H locs k pc lv (.int x :: .ref a :: st) := by
  subst hm
  refine yy_put F X.1 X.2.1 G gt_S (fun C T N h => by cases h; rfl) hS ok.1.1 P.1 rfl rfl (Nat.le_of_ble_eq_true rfl) d hn (fun H1 locs1 O e2 e3 hS1 => ?_)
  exact kk H1 locs1 ⟨O, P.2.1.kept (e3 na ok.2.1), P.2.2.kept (e3 va ok.2.2.1)⟩ (hk.put (by simp) e2 e3) hS1
theorem sr_room (F : yy_A l z b rmM cc nL own ret hh Post) (X : kcx l z a0 D ca) (G : yy_G lw_tbl kcl own idx 0 4) (hS : yy_S z H locs) (ok : st_ok z a na va) (P : st_at D ca H a na va kd rm ch n nf vf) (hk : kp [a, na, va] H0 H) (d : decode cc pc = .ok (.putfield idx, 3)) (hn : pc + 3 = n')
    (kk : ∀ (H1 : Heap) (locs1 : List Loc), st_at D ca H1 a na va kd x ch n nf vf → kp [a, na, va] H0 H1 → yy_S z H1 locs1 → yy_Y b H1 locs1 k n' lv st) : yy_Y b H locs k pc lv (.int x :: .ref a :: st) := by
  refine yy_put F X.1 X.2.1 G gt_S (fun C T N h => by cases h; rfl) hS ok.1.1 P.1 rfl rfl (Nat.le_of_ble_eq_true rfl) d hn (fun H1 locs1 O e2 e3 hS1 => ?_)
  exact kk H1 locs1 ⟨O, P.2.1.kept (e3 na ok.2.1), P.2.2.kept (e3 va ok.2.2.1)⟩ (hk.put (by simp) e2 e3) hS1
theorem sr_chg (F : yy_A l z b rmM cc nL own ret hh Post) (X : kcx l z a0 D ca) (G : yy_G lw_tbl kcl own idx 0 5) (hS : yy_S z H locs) (ok : st_ok z a na va) (P : st_at D ca H a na va kd rm ch n nf vf) (hk : kp [a, na, va] H0 H) (d : decode cc pc = .ok (.putfield idx, 3)) (hn : pc + 3 = n')
    (kk : ∀ (H1 : Heap) (locs1 : List Loc), st_at D ca H1 a na va kd rm x n nf vf → kp [a, na, va] H0 H1 → yy_S z H1 locs1 → yy_Y b H1 locs1 k n' lv st) : yy_Y b H locs k pc lv (.int x :: .ref a :: st) := by
  refine yy_put F X.1 X.2.1 G gt_S (fun C T N h => by cases h; rfl) hS ok.1.1 P.1 rfl rfl (Nat.le_of_ble_eq_true rfl) d hn (fun H1 locs1 O e2 e3 hS1 => ?_)
  exact kk H1 locs1 ⟨O, P.2.1.kept (e3 na ok.2.1), P.2.2.kept (e3 va ok.2.2.1)⟩ (hk.put (by simp) e2 e3) hS1
theorem sr_num (F : yy_A l z b rmM cc nL own ret hh Post) (X : kcx l z a0 D ca) (hS : yy_S z H locs) (ok : st_ok z a na va) (P : st_at D ca H a na va kd rm ch n nf vf) (hk : kp [a, na, va] H0 H) {i : Nat} (hi : i < 24) (d : decode cc pc = .ok (.iastore, 1)) (hn : pc + 1 = n')
    (kk : ∀ (H1 : Heap) (locs1 : List Loc), st_at D ca H1 a na va kd rm ch n (upd nf i x) vf → kp [a, na, va] H0 H1 → yy_S z H1 locs1 → yy_Y b H1 locs1 k n' lv st) : yy_Y b H locs k pc lv (.int x :: .int (nI i) :: .ref na :: st) := by
  refine yy_iast F X.2.1 0 rfl hS ok.1.2.1 P.2.1 (vp_in_nI hi (by decide)) d hn (fun H1 locs1 O e2 e3 hS1 => ?_)
  rw [nI_clamp (by omega)] at O
  exact kk H1 locs1 ⟨P.1.kept (e3 a (Ne.symm ok.2.1)), O, P.2.2.kept (e3 va ok.2.2.2)⟩ (hk.put (by simp) e2 e3) hS1
theorem sr_val (F : yy_A l z b rmM cc nL own ret hh Post) (X : kcx l z a0 D ca) (hS : yy_S z H locs) (ok : st_ok z a na va) (P : st_at D ca H a na va kd rm ch n nf vf) (hk : kp [a, na, va] H0 H) {i : Nat} (hi : i < 24) (d : decode cc pc = .ok (.iastore, 1)) (hn : pc + 1 = n')
    (kk : ∀ (H1 : Heap) (locs1 : List Loc), st_at D ca H1 a na va kd rm ch n nf (upd vf i x) → kp [a, na, va] H0 H1 → yy_S z H1 locs1 → yy_Y b H1 locs1 k n' lv st) : yy_Y b H locs k pc lv (.int x :: .int (nI i) :: .ref va :: st) := by
  refine yy_iast F X.2.1 0 rfl hS ok.1.2.2 P.2.2 (vp_in_nI hi (by decide)) d hn (fun H1 locs1 O e2 e3 hS1 => ?_)
  rw [nI_clamp (by omega)] at O
  exact kk H1 locs1 ⟨P.1.kept (e3 a (Ne.symm ok.2.2.1)), P.2.1.kept (e3 na (Ne.symm ok.2.2.2)), O⟩ (hk.put (by simp) e2 e3) hS1
/-- reads of a row at a small place -/
theorem sr_ald {aa i N : Nat} {f : Nat → Int32} (F : yy_A l z b rmM cc nL own ret hh Post) (X : kcx l z a0 D ca) (O : va_at D kcl (aa, .inl (ca.1, N, .inl f)) H) (hN : N < 2 ^ 31) (hi : i < N) (d : decode cc pc = .ok (.iaload, 1)) (hn : pc + 1 = n') (kk : yy_Y b H locs k n' lv (.int (f i) :: st)) : yy_Y b H locs k pc lv (.int (nI i) :: .ref aa :: st) := by
  refine yy_iald F X.2.1 0 rfl O (vp_in_nI hi hN) d hn ?_
  rw [nI_clamp (by omega)]
  exact kk
end SR
/-- the first place of a key from i on, within d steps -/
def ym_fi (f : Nat → Int32) (key : Int32) : Nat → Nat → Int32
  | 0, _ => -1
  | d + 1, i => if f i = key then nI i else ym_fi f key d (i + 1)
def ym_find (f : Nat → Int32) (key : Int32) (n : Nat) : Int32 := ym_fi f key n 0
/-- how many of the first n are so -/
def ym_cnt (p : Nat → Bool) : Nat → Nat
  | 0 => 0
  | n + 1 => ym_cnt p n + (if p n then 1 else 0)
/-- below a number, or not above it -/
def ym_bel (f : Nat → Int32) (x e : Int32) : Nat → Bool := fun i => decide (f i < x) || (decide (¬ e = 0) && decide (f i = x))
/-- j .. i - 1 hold what was one farther -/
def ym_sh (f : Nat → Int32) (j i : Nat) : Nat → Int32 := fun q => if j ≤ q ∧ q < i then f (q + 1) else f q
theorem ym_sh_0 (f : Nat → Int32) (j : Nat) : ym_sh f j j = f := by
  funext q
  unfold ym_sh
  rw [if_neg (by omega)]
theorem ym_sh_s (f : Nat → Int32) {j i : Nat} (h : j ≤ i) : upd (ym_sh f j i) i (ym_sh f j i (i + 1)) = ym_sh f j (i + 1) := by
  funext q
  unfold ym_sh upd
  by_cases hq : q = i
  · subst hq
    rw [if_pos rfl, if_neg (by omega), if_pos (by omega)]
  · rw [if_neg hq]
    dsimp only
    by_cases h1 : j ≤ q ∧ q < i
    · rw [if_pos h1, if_pos (by omega)]
    · rw [if_neg h1, if_neg (by omega)]
/-- i + 1 .. n hold what was one nearer -/
def ym_up (f : Nat → Int32) (i n : Nat) : Nat → Int32 := fun q => if i < q ∧ q ≤ n then f (q - 1) else f q
theorem ym_up_0 (f : Nat → Int32) (n : Nat) : ym_up f n n = f := by
  funext q
  unfold ym_up
  rw [if_neg (by omega)]
theorem ym_up_s (f : Nat → Int32) {i n : Nat} (h : i + 1 ≤ n) : upd (ym_up f (i + 1) n) (i + 1) (ym_up f (i + 1) n i) = ym_up f i n := by
  funext q
  unfold ym_up upd
  by_cases hq : q = i + 1
  · subst hq
    rw [if_pos rfl, if_neg (by omega), if_pos (by omega)]
    rfl
  · rw [if_neg hq]
    dsimp only
    by_cases h1 : i + 1 < q ∧ q ≤ n
    · rw [if_pos h1, if_pos (by omega)]
    · rw [if_neg h1, if_neg (by omega)]
end
section
/-! PART cv: calls that make no cell, and change the heap as their contract says -/
section YCv
variable {l : Launch} {z : State} {b : yy_T} {rm : Room} {cc : ByteArray} {nL : Nat} {own : String} {ret : Option FieldType} {hh : List (Nat × Nat × Nat × Nat)} {Post : yy_R → Heap → Prop}
variable {H : Heap} {locs : List Loc} {k : Nat × Nat} {pc n : Nat} {lv : List (Nat × Value)} {st0 rest : List Value}
variable {y : MethodName} {cd : Cond} {rmY : Room} {av : List Value} {Pre : Heap → Prop} {maxL : Nat}
theorem yy_cv (F : yy_A l z b rm cc nL own ret hh Post) (hS : yy_S z H locs) {φ : Heap → Heap → Prop} (hM : yy_M l z y cd rmY av Pre (yy_pv φ)) (hB : yy_B (yy_s b) y cd maxL) (inv : yy_PB b H locs k y av pc st0 rest) {ig : Instr} (hdg : decode cc pc = .ok (ig, 3)) (hn : pc + 3 = n) (hW8 : (rest.map fun v => v.category).sum ≤ 8)
    (hR : rmY.frames + 1 ≤ rm.frames ∧ 8 + (maxL + 11) + rmY.locals ≤ rm.locals) (hf : k.1 + rmY.cells ≤ rm.cells ∧ k.2 + rmY.slots ≤ rm.slots) (h0 : rmY.cells = 0 ∧ rmY.slots = 0) (hP : Pre H)
    (kr : ∀ (H1 : Heap) (locs1 : List Loc), φ H H1 → yy_S z H1 locs1 → yy_Y b H1 locs1 k n lv rest) : yy_Y b H locs k pc lv st0 :=
  yy_callv F hS hM hB inv hdg hn hW8 hR hf hP (fun H1 locs1 h1 h2 => by
    rw [h0.1, h0.2]
    exact kr H1 locs1 h1 h2)
theorem yy_ci (F : yy_A l z b rm cc nL own ret hh Post) (hS : yy_S z H locs) {φ : Int32 → Heap → Heap → Prop} (hM : yy_M l z y cd rmY av Pre (yy_pi φ)) (hB : yy_B (yy_s b) y cd maxL) (inv : yy_PB b H locs k y av pc st0 rest) {ig : Instr} (hdg : decode cc pc = .ok (ig, 3)) (hn : pc + 3 = n) (hW8 : (rest.map fun v => v.category).sum ≤ 8)
    (hR : rmY.frames + 1 ≤ rm.frames ∧ 8 + (maxL + 11) + rmY.locals ≤ rm.locals) (hf : k.1 + rmY.cells ≤ rm.cells ∧ k.2 + rmY.slots ≤ rm.slots) (h0 : rmY.cells = 0 ∧ rmY.slots = 0) (hP : Pre H)
    (kr : ∀ (x : Int32) (H1 : Heap) (locs1 : List Loc), φ x H H1 → yy_S z H1 locs1 → yy_Y b H1 locs1 k n lv (.int x :: rest)) : yy_Y b H locs k pc lv st0 :=
  yy_calli F hS hM hB inv hdg hn hW8 hR hf hP (fun x H1 locs1 h1 h2 => by
    rw [h0.1, h0.2]
    exact kr x H1 locs1 h1 h2)
end YCv
theorem ym_sub1 {n : Nat} (h : 1 ≤ n) : nI n - 1 = nI (n - 1) := (show nI n - 1 = nI n - nI 1 from rfl).trans (pk_sub h)
theorem ym_mul {n : Nat} {c : Int32} (k : Nat) (h : c = nI k) : nI n * c = nI (n * k) := by rw [h, pk_mul]
theorem ym_nm1 {j : Nat} (h : j < 2 ^ 31) : ¬ nI j = -1 := fun q => by
  have := congrArg Int32.toInt q
  rw [nI_toInt h] at this
  exact absurd this (by simp)
theorem ym_cnt_le (p : Nat → Bool) : ∀ n : Nat, ym_cnt p n ≤ n
  | 0 => Nat.le_refl _
  | n + 1 => by
    have h := ym_cnt_le p n
    show ym_cnt p n + (if p n then 1 else 0) ≤ n + 1
    split <;> omega
end
section
/-! PART S2: what a store finds and counts; what it sets, closes, takes out -/
set_option maxRecDepth 100000 in
set_option maxHeartbeats 4000000 in
/-- the first place of a key, or -1 -/
theorem c_S_placeOf {l : Launch} {z : State} {a0 : Array Value} {D : va_G} {ca : kca} (X : kcx l z a0 D ca) {a na va n : Nat} {kd rm ch : Int32} {nf vf : Nat → Int32} (hn : n ≤ 24) {key : Int32} : yy_M l z y_S_placeOf (.code y_S_placeOf b_S_placeOf 3 (some .int)) ({ frames := 0, cells := 0, slots := 0, locals := 0 }) [.ref a, .int key] (fun H => st_at D ca H a na va kd rm ch n nf vf) (yy_ri (ym_find nf key n)) := by
  refine yy_body (plainFor_of_name (by decide)) (Nat.le_of_ble_eq_true rfl) (fun b H F hS hP hH hnm => ?_)
  obtain ⟨hO, hN, hV⟩ := id hP
  have loop : ∀ (d i : Nat), i + d = n → ym_fi nf key d i = ym_find nf key n → yy_Y b H [] (0, 0) 2 [(2, .int (nI i)), (0, .ref a), (1, .int key)] [] := by
    intro d
    induction d with
    | zero =>
      intro i hi he
      refine yy_iload_n F d_S_placeOf_2 (n := 3) rfl 0 rfl ?_
      refine yy_aload_n F d_S_placeOf_3 (n := 4) rfl 1 rfl ?_
      refine yy_get F X.1 X.2.1 g_S_18_S hO rfl d_S_placeOf_4 (n := 7) rfl ?_
      refine yy_ic_ge_t (tgt := 28) F d_S_placeOf_7 (by decide) (nI_le (by omega) (by omega)) ?_
      refine yy_iconst (v := (-1)) F d_S_placeOf_28 (n := 29) rfl rfl ?_
      exact yy_iret F hS ⟨Nat.zero_le _, Nat.zero_le _⟩ rfl d_S_placeOf_29 (⟨_, rfl, he, rfl⟩)
    | succ d ih =>
      intro i hi he
      refine yy_iload_n F d_S_placeOf_2 (n := 3) rfl 0 rfl ?_
      refine yy_aload_n F d_S_placeOf_3 (n := 4) rfl 1 rfl ?_
      refine yy_get F X.1 X.2.1 g_S_18_S hO rfl d_S_placeOf_4 (n := 7) rfl ?_
      refine yy_ic_ge_f (tgt := 28) F d_S_placeOf_7 (n := 10) rfl (by decide) (nI_ge (by omega) (by omega)) ?_
      refine yy_aload_n F d_S_placeOf_10 (n := 11) rfl 1 rfl ?_
      refine yy_get F X.1 X.2.1 g_S_9_S hO rfl d_S_placeOf_11 (n := 14) rfl ?_
      refine yy_iload_n F d_S_placeOf_14 (n := 15) rfl 0 rfl ?_
      refine sr_ald (i := i) F X hN (by decide) (by omega) d_S_placeOf_15 (n' := 16) rfl ?_
      refine yy_iload_n F d_S_placeOf_16 (n := 17) rfl 2 rfl ?_
      refine yy_ic_ne (tgt := 22) F d_S_placeOf_17 (n := 20) rfl (by decide) (fun h => ?_) (fun h => ?_)
      · refine yy_iinc (v := nI (i + 1)) (lv' := [(2, .int (nI (i + 1))), (0, .ref a), (1, .int key)]) F d_S_placeOf_22 (n := 25) rfl 0 rfl (nI_1 _) (by decide) rfl ?_
        refine yy_goto (tgt := 2) F d_S_placeOf_25 (by decide) ?_
        exact ih (i + 1) (by omega) (by rw [← he]; show _ = if nf i = key then nI i else ym_fi nf key d (i + 1); rw [if_neg h])
      · refine yy_iload_n F d_S_placeOf_20 (n := 21) rfl 0 rfl ?_
        exact yy_iret F hS ⟨Nat.zero_le _, Nat.zero_le _⟩ rfl d_S_placeOf_21 (⟨_, rfl, by rw [← he]; show _ = if nf i = key then nI i else ym_fi nf key d (i + 1); rw [if_pos h], rfl⟩)
  refine yy_iconst (v := 0) F d_S_placeOf_0 (n := 1) rfl rfl ?_
  refine yy_istore_n (lv' := [(2, .int 0), (0, .ref a), (1, .int key)]) F d_S_placeOf_1 (n := 2) rfl (by decide) rfl ?_
  exact loop n 0 (by omega) rfl
set_option maxRecDepth 100000 in
set_option maxHeartbeats 4000000 in
/-- how many numbers are below one, or not above it -/
theorem c_S_placesBefore {l : Launch} {z : State} {a0 : Array Value} {D : va_G} {ca : kca} (X : kcx l z a0 D ca) {a na va n : Nat} {kd rm ch : Int32} {nf vf : Nat → Int32} (hn : n ≤ 24) {x e : Int32} : yy_M l z y_S_placesBefore (.code y_S_placesBefore b_S_placesBefore 5 (some .int)) ({ frames := 0, cells := 0, slots := 0, locals := 0 }) [.ref a, .int x, .int e] (fun H => st_at D ca H a na va kd rm ch n nf vf) (yy_ri (nI (ym_cnt (ym_bel nf x e) n))) := by
  refine yy_body (plainFor_of_name (by decide)) (Nat.le_of_ble_eq_true rfl) (fun b H F hS hP hH hnm => ?_)
  obtain ⟨hO, hN, hV⟩ := id hP
  have loop : ∀ (d i : Nat), i + d = n → yy_Y b H [] (0, 0) 5 [(4, .int (nI i)), (3, .int (nI (ym_cnt (ym_bel nf x e) i))), (0, .ref a), (1, .int x), (2, .int e)] [] := by
    intro d
    induction d with
    | zero =>
      intro i hi
      refine yy_iload F d_S_placesBefore_5 (n := 7) rfl 0 rfl ?_
      refine yy_aload_n F d_S_placesBefore_7 (n := 8) rfl 2 rfl ?_
      refine yy_get F X.1 X.2.1 g_S_18_S hO rfl d_S_placesBefore_8 (n := 11) rfl ?_
      refine yy_ic_ge_t (tgt := 49) F d_S_placesBefore_11 (by decide) (nI_le (by omega) (by omega)) ?_
      refine yy_iload_n F d_S_placesBefore_49 (n := 50) rfl 1 rfl ?_
      exact yy_iret F hS ⟨Nat.zero_le _, Nat.zero_le _⟩ rfl d_S_placesBefore_50 (⟨_, rfl, by rw [show i = n by omega], rfl⟩)
    | succ d ih =>
      intro i hi
      refine yy_iload F d_S_placesBefore_5 (n := 7) rfl 0 rfl ?_
      refine yy_aload_n F d_S_placesBefore_7 (n := 8) rfl 2 rfl ?_
      refine yy_get F X.1 X.2.1 g_S_18_S hO rfl d_S_placesBefore_8 (n := 11) rfl ?_
      refine yy_ic_ge_f (tgt := 49) F d_S_placesBefore_11 (n := 14) rfl (by decide) (nI_ge (by omega) (by omega)) ?_
      have hs : ∀ c : Bool, ym_bel nf x e i = c → ym_cnt (ym_bel nf x e) (i + 1) = ym_cnt (ym_bel nf x e) i + (if c then 1 else 0) := fun c h => by rw [← h]; rfl
      have yes : ym_bel nf x e i = true → yy_Y b H [] (0, 0) 40 [(4, .int (nI i)), (3, .int (nI (ym_cnt (ym_bel nf x e) i))), (0, .ref a), (1, .int x), (2, .int e)] [] := by
        intro hb
        refine yy_iinc (v := nI ((ym_cnt (ym_bel nf x e) i) + 1)) (lv' := [(3, .int (nI ((ym_cnt (ym_bel nf x e) i) + 1))), (4, .int (nI i)), (0, .ref a), (1, .int x), (2, .int e)]) F d_S_placesBefore_40 (n := 43) rfl 1 rfl (nI_1 _) (by decide) rfl ?_
        refine yy_iinc (v := nI (i + 1)) (lv' := [(4, .int (nI (i + 1))), (3, .int (nI ((ym_cnt (ym_bel nf x e) i) + 1))), (0, .ref a), (1, .int x), (2, .int e)]) F d_S_placesBefore_43 (n := 46) rfl 1 rfl (nI_1 _) (by decide) rfl ?_
        refine yy_goto (tgt := 5) F d_S_placesBefore_46 (by decide) ?_
        have h9 := ih (i + 1) (by omega)
        rw [hs true hb] at h9
        exact yy_sub [0, 1, 2, 3, 4] rfl h9
      have no : ym_bel nf x e i = false → yy_Y b H [] (0, 0) 43 [(4, .int (nI i)), (3, .int (nI (ym_cnt (ym_bel nf x e) i))), (0, .ref a), (1, .int x), (2, .int e)] [] := by
        intro hb
        refine yy_iinc (v := nI (i + 1)) (lv' := [(4, .int (nI (i + 1))), (3, .int (nI (ym_cnt (ym_bel nf x e) i))), (0, .ref a), (1, .int x), (2, .int e)]) F d_S_placesBefore_43 (n := 46) rfl 0 rfl (nI_1 _) (by decide) rfl ?_
        refine yy_goto (tgt := 5) F d_S_placesBefore_46 (by decide) ?_
        have h9 := ih (i + 1) (by omega)
        rw [hs false hb] at h9
        exact yy_sub [0, 1, 2, 3, 4] rfl h9
      refine yy_aload_n F d_S_placesBefore_14 (n := 15) rfl 2 rfl ?_
      refine yy_get F X.1 X.2.1 g_S_9_S hO rfl d_S_placesBefore_15 (n := 18) rfl ?_
      refine yy_iload F d_S_placesBefore_18 (n := 20) rfl 0 rfl ?_
      refine sr_ald (i := i) F X hN (by decide) (by omega) d_S_placesBefore_20 (n' := 21) rfl ?_
      refine yy_iload_n F d_S_placesBefore_21 (n := 22) rfl 3 rfl ?_
      refine yy_ic_lt (tgt := 40) F d_S_placesBefore_22 (n := 25) rfl (by decide) (fun h1 => ?_) (fun h1 => ?_)
      · exact yes (by simp [ym_bel, h1])
      · refine yy_iload_n F d_S_placesBefore_25 (n := 26) rfl 4 rfl ?_
        refine yy_if_eq (tgt := 43) F d_S_placesBefore_26 (n := 29) rfl (by decide) (fun h2 => ?_) (fun h2 => ?_)
        · exact no (by simp [ym_bel, h1, h2])
        · refine yy_aload_n F d_S_placesBefore_29 (n := 30) rfl 2 rfl ?_
          refine yy_get F X.1 X.2.1 g_S_9_S hO rfl d_S_placesBefore_30 (n := 33) rfl ?_
          refine yy_iload F d_S_placesBefore_33 (n := 35) rfl 0 rfl ?_
          refine sr_ald (i := i) F X hN (by decide) (by omega) d_S_placesBefore_35 (n' := 36) rfl ?_
          refine yy_iload_n F d_S_placesBefore_36 (n := 37) rfl 3 rfl ?_
          refine yy_ic_ne (tgt := 43) F d_S_placesBefore_37 (n := 40) rfl (by decide) (fun h3 => ?_) (fun h3 => ?_)
          · exact no (by simp [ym_bel, h1, h3])
          · exact yes (by simp [ym_bel, h2, h3])
  refine yy_iconst (v := 0) F d_S_placesBefore_0 (n := 1) rfl rfl ?_
  refine yy_istore_n (lv' := [(3, .int 0), (0, .ref a), (1, .int x), (2, .int e)]) F d_S_placesBefore_1 (n := 2) rfl (by decide) rfl ?_
  refine yy_iconst (v := 0) F d_S_placesBefore_2 (n := 3) rfl rfl ?_
  refine yy_istore (lv' := [(4, .int 0), (3, .int 0), (0, .ref a), (1, .int x), (2, .int e)]) F d_S_placesBefore_3 (n := 5) rfl (by decide) rfl ?_
  exact loop n 0 (by omega)
end
section
/-! PART S3: what a store sets, closes, takes out, brings in -/
set_option maxRecDepth 100000 in
set_option maxHeartbeats 4000000 in
/-- sets at a held place -/
theorem c_S_setNumber {l : Launch} {z : State} {a0 : Array Value} {D : va_G} {ca : kca} (X : kcx l z a0 D ca) {a na va n : Nat} {kd rm ch : Int32} {nf vf : Nat → Int32} (hn : n ≤ 24) (ok : st_ok z a na va) {j : Nat} {x : Int32} (hj : j < n) : yy_M l z y_S_setNumber (.code y_S_setNumber b_S_setNumber 3 none) ({ frames := 1, cells := 0, slots := 0, locals := 21 }) [.ref a, .int (nI j), .int x] (fun H => st_at D ca H a na va kd rm ch n nf vf) (yy_pv (fun H H1 => st_at D ca H1 a na va kd rm ch n (upd nf j x) vf ∧ kp [a, na, va] H H1)) := by
  refine yy_body (plainFor_of_name (by decide)) (Nat.le_of_ble_eq_true rfl) (fun b H F hS hP hH hnm => ?_)
  have hk0 : kp [a, na, va] H H := kp.rf
  refine yy_aload_n F d_S_setNumber_0 (n := 1) rfl 0 rfl ?_
  refine yy_iload_n F d_S_setNumber_1 (n := 2) rfl 1 rfl ?_
  refine yy_cri (w := 1) F hS (c_S_isHeld (p := nI j) X hn) (yy_Bc F X.1 q_461 q_11) (yy_invV (nA := 1) (C := R_S) (bytes := b_S_isHeld) (maxL := 2) (retY := (some .boolean)) F X.1 q_458 q_459 q_460 q_461 ⟨by decide, by decide, by decide +kernel⟩ (yy_recv F.N X.2.1 (ci := 0) rfl hP.1) rfl d_S_setNumber_2) d_S_setNumber_2 (n := 5) rfl (by simp [Value.category]) ⟨by decide, by decide⟩ ⟨Nat.le_refl _, Nat.le_refl _⟩ ⟨rfl, rfl⟩ hP (ym_nt (ym_inb_t (ym_in.of hj (by omega)))) (fun _ hS_1 => ?_)
  refine yy_if_eq_f (tgt := 15) F d_S_setNumber_5 (n := 8) rfl (by decide) (by decide) ?_
  refine yy_aload_n F d_S_setNumber_8 (n := 9) rfl 0 rfl ?_
  refine yy_get F X.1 X.2.1 g_S_9_S hP.1 rfl d_S_setNumber_9 (n := 12) rfl ?_
  refine yy_iload_n F d_S_setNumber_12 (n := 13) rfl 1 rfl ?_
  refine yy_iload_n F d_S_setNumber_13 (n := 14) rfl 2 rfl ?_
  refine sr_num F X  hS_1 ok hP hk0 (i := j) (by omega) d_S_setNumber_14 (n' := 15) rfl (fun Hw_2 locs_w_2 Pw_2 kw_2 Sw_2 => ?_)
  exact yy_vret F Sw_2 ⟨Nat.zero_le _, Nat.zero_le _⟩ rfl d_S_setNumber_15 (⟨rfl, Pw_2, kw_2⟩)
set_option maxRecDepth 100000 in
set_option maxHeartbeats 4000000 in
/-- sets at a held place -/
theorem c_S_setValue {l : Launch} {z : State} {a0 : Array Value} {D : va_G} {ca : kca} (X : kcx l z a0 D ca) {a na va n : Nat} {kd rm ch : Int32} {nf vf : Nat → Int32} (hn : n ≤ 24) (ok : st_ok z a na va) {j : Nat} {x : Int32} (hj : j < n) : yy_M l z y_S_setValue (.code y_S_setValue b_S_setValue 3 none) ({ frames := 1, cells := 0, slots := 0, locals := 21 }) [.ref a, .int (nI j), .int x] (fun H => st_at D ca H a na va kd rm ch n nf vf) (yy_pv (fun H H1 => st_at D ca H1 a na va kd rm ch n nf (upd vf j x) ∧ kp [a, na, va] H H1)) := by
  refine yy_body (plainFor_of_name (by decide)) (Nat.le_of_ble_eq_true rfl) (fun b H F hS hP hH hnm => ?_)
  have hk0 : kp [a, na, va] H H := kp.rf
  refine yy_aload_n F d_S_setValue_0 (n := 1) rfl 0 rfl ?_
  refine yy_iload_n F d_S_setValue_1 (n := 2) rfl 1 rfl ?_
  refine yy_cri (w := 1) F hS (c_S_isHeld (p := nI j) X hn) (yy_Bc F X.1 q_461 q_11) (yy_invV (nA := 1) (C := R_S) (bytes := b_S_isHeld) (maxL := 2) (retY := (some .boolean)) F X.1 q_458 q_459 q_460 q_461 ⟨by decide, by decide, by decide +kernel⟩ (yy_recv F.N X.2.1 (ci := 0) rfl hP.1) rfl d_S_setValue_2) d_S_setValue_2 (n := 5) rfl (by simp [Value.category]) ⟨by decide, by decide⟩ ⟨Nat.le_refl _, Nat.le_refl _⟩ ⟨rfl, rfl⟩ hP (ym_nt (ym_inb_t (ym_in.of hj (by omega)))) (fun _ hS_1 => ?_)
  refine yy_if_eq_f (tgt := 15) F d_S_setValue_5 (n := 8) rfl (by decide) (by decide) ?_
  refine yy_aload_n F d_S_setValue_8 (n := 9) rfl 0 rfl ?_
  refine yy_get F X.1 X.2.1 g_S_15_S hP.1 rfl d_S_setValue_9 (n := 12) rfl ?_
  refine yy_iload_n F d_S_setValue_12 (n := 13) rfl 1 rfl ?_
  refine yy_iload_n F d_S_setValue_13 (n := 14) rfl 2 rfl ?_
  refine sr_val F X  hS_1 ok hP hk0 (i := j) (by omega) d_S_setValue_14 (n' := 15) rfl (fun Hw_2 locs_w_2 Pw_2 kw_2 Sw_2 => ?_)
  exact yy_vret F Sw_2 ⟨Nat.zero_le _, Nat.zero_le _⟩ rfl d_S_setValue_15 (⟨rfl, Pw_2, kw_2⟩)
set_option maxRecDepth 100000 in
set_option maxHeartbeats 4000000 in
/-- what is behind a place comes one nearer -/
theorem c_S_closeGap {l : Launch} {z : State} {a0 : Array Value} {D : va_G} {ca : kca} (X : kcx l z a0 D ca) {a na va n : Nat} {kd rm ch : Int32} {nf vf : Nat → Int32} (hn : n ≤ 24) (ok : st_ok z a na va) {j : Nat} (hj : j < n) : yy_M l z y_S_closeGap (.code y_S_closeGap b_S_closeGap 3 none) ({ frames := 0, cells := 0, slots := 0, locals := 0 }) [.ref a, .int (nI j)] (fun H => st_at D ca H a na va kd rm ch n nf vf) (yy_pv (fun H H1 => st_at D ca H1 a na va kd rm ch n (ym_sh nf j (n - 1)) (ym_sh vf j (n - 1)) ∧ kp [a, na, va] H H1)) := by
  refine yy_body (plainFor_of_name (by decide)) (Nat.le_of_ble_eq_true rfl) (fun b H F hS hP hH hnm => ?_)
  have hk0 : kp [a, na, va] H H := kp.rf
  have loop : ∀ (d i : Nat) (H1 : Heap) (locs : List Loc), i + d = n - 1 → j ≤ i → st_at D ca H1 a na va kd rm ch n (ym_sh nf j i) (ym_sh vf j i) → kp [a, na, va] H H1 → yy_S z H1 locs → yy_Y b H1 locs (0, 0) 2 [(2, .int (nI i)), (0, .ref a), (1, .int (nI j))] [] := by
    intro d
    induction d with
    | zero =>
      intro i H1 locs hi hji P1 k1 S1
      refine yy_iload_n F d_S_closeGap_2 (n := 3) rfl 0 rfl ?_
      refine yy_aload_n F d_S_closeGap_3 (n := 4) rfl 1 rfl ?_
      refine yy_get F X.1 X.2.1 g_S_18_S P1.1 rfl d_S_closeGap_4 (n := 7) rfl ?_
      refine yy_iconst (v := 1) F d_S_closeGap_7 (n := 8) rfl rfl ?_
      refine yy_isub F d_S_closeGap_8 (n := 9) rfl ?_
      refine yy_tope (y := (nI (n - 1))) (ym_sub1 (by omega)) ?_
      refine yy_ic_ge_t (tgt := 46) F d_S_closeGap_9 (by decide) (nI_le (by omega) (by omega)) ?_
      have e : i = n - 1 := by omega
      subst e
      exact yy_vret F S1 ⟨Nat.zero_le _, Nat.zero_le _⟩ rfl d_S_closeGap_46 (⟨rfl, P1, k1⟩)
    | succ d ih =>
      intro i H1 locs hi hji P1 k1 S1
      refine yy_iload_n F d_S_closeGap_2 (n := 3) rfl 0 rfl ?_
      refine yy_aload_n F d_S_closeGap_3 (n := 4) rfl 1 rfl ?_
      refine yy_get F X.1 X.2.1 g_S_18_S P1.1 rfl d_S_closeGap_4 (n := 7) rfl ?_
      refine yy_iconst (v := 1) F d_S_closeGap_7 (n := 8) rfl rfl ?_
      refine yy_isub F d_S_closeGap_8 (n := 9) rfl ?_
      refine yy_tope (y := (nI (n - 1))) (ym_sub1 (by omega)) ?_
      refine yy_ic_ge_f (tgt := 46) F d_S_closeGap_9 (n := 12) rfl (by decide) (nI_ge (by omega) (by omega)) ?_
      refine yy_aload_n F d_S_closeGap_12 (n := 13) rfl 1 rfl ?_
      refine yy_get F X.1 X.2.1 g_S_9_S P1.1 rfl d_S_closeGap_13 (n := 16) rfl ?_
      refine yy_iload_n F d_S_closeGap_16 (n := 17) rfl 0 rfl ?_
      refine yy_aload_n F d_S_closeGap_17 (n := 18) rfl 1 rfl ?_
      refine yy_get F X.1 X.2.1 g_S_9_S P1.1 rfl d_S_closeGap_18 (n := 21) rfl ?_
      refine yy_iload_n F d_S_closeGap_21 (n := 22) rfl 0 rfl ?_
      refine yy_iconst (v := 1) F d_S_closeGap_22 (n := 23) rfl rfl ?_
      refine yy_iadd F d_S_closeGap_23 (n := 24) rfl ?_
      refine yy_tope (y := (nI (i + 1))) (nI_1 _) ?_
      refine sr_ald (i := (i + 1)) F X P1.2.1 (by decide) (by omega) d_S_closeGap_24 (n' := 25) rfl ?_
      refine sr_num F X  S1 ok P1 k1 (i := i) (by omega) d_S_closeGap_25 (n' := 26) rfl (fun Hw_1 locs_w_1 Pw_1 kw_1 Sw_1 => ?_)
      refine yy_aload_n F d_S_closeGap_26 (n := 27) rfl 1 rfl ?_
      refine yy_get F X.1 X.2.1 g_S_15_S Pw_1.1 rfl d_S_closeGap_27 (n := 30) rfl ?_
      refine yy_iload_n F d_S_closeGap_30 (n := 31) rfl 0 rfl ?_
      refine yy_aload_n F d_S_closeGap_31 (n := 32) rfl 1 rfl ?_
      refine yy_get F X.1 X.2.1 g_S_15_S Pw_1.1 rfl d_S_closeGap_32 (n := 35) rfl ?_
      refine yy_iload_n F d_S_closeGap_35 (n := 36) rfl 0 rfl ?_
      refine yy_iconst (v := 1) F d_S_closeGap_36 (n := 37) rfl rfl ?_
      refine yy_iadd F d_S_closeGap_37 (n := 38) rfl ?_
      refine yy_tope (y := (nI (i + 1))) (nI_1 _) ?_
      refine sr_ald (i := (i + 1)) F X Pw_1.2.2 (by decide) (by omega) d_S_closeGap_38 (n' := 39) rfl ?_
      refine sr_val F X  Sw_1 ok Pw_1 kw_1 (i := i) (by omega) d_S_closeGap_39 (n' := 40) rfl (fun Hw_2 locs_w_2 Pw_2 kw_2 Sw_2 => ?_)
      refine yy_iinc (v := nI (i + 1)) (lv' := [(2, .int (nI (i + 1))), (0, .ref a), (1, .int (nI j))]) F d_S_closeGap_40 (n := 43) rfl 0 rfl (nI_1 _) (by decide) rfl ?_
      refine yy_goto (tgt := 2) F d_S_closeGap_43 (by decide) ?_
      exact yy_sub [0, 1, 2] rfl (ih (i + 1) _ _ (by omega) (by omega) (by rw [← ym_sh_s nf hji, ← ym_sh_s vf hji]; exact Pw_2) kw_2 Sw_2)
  refine yy_iload_n F d_S_closeGap_0 (n := 1) rfl 1 rfl ?_
  refine yy_istore_n (lv' := [(2, .int (nI j)), (0, .ref a), (1, .int (nI j))]) F d_S_closeGap_1 (n := 2) rfl (by decide) rfl ?_
  exact loop (n - 1 - j) j H [] (by omega) (Nat.le_refl _) (by rw [ym_sh_0, ym_sh_0]; exact hP) hk0 hS
set_option maxRecDepth 100000 in
set_option maxHeartbeats 4000000 in
/-- the one at a held place goes -/
theorem c_S_takeOut {l : Launch} {z : State} {a0 : Array Value} {D : va_G} {ca : kca} (X : kcx l z a0 D ca) {a na va n : Nat} {kd rm ch : Int32} {nf vf : Nat → Int32} (hn : n ≤ 24) (ok : st_ok z a na va) {j : Nat} (hj : j < n) : yy_M l z y_S_takeOut (.code y_S_takeOut b_S_takeOut 2 none) ({ frames := 1, cells := 0, slots := 0, locals := 22 }) [.ref a, .int (nI j)] (fun H => st_at D ca H a na va kd rm ch n nf vf) (yy_pv (fun H H1 => st_at D ca H1 a na va kd rm (ch + 1) (n - 1) (ym_sh nf j (n - 1)) (ym_sh vf j (n - 1)) ∧ kp [a, na, va] H H1)) := by
  refine yy_body (plainFor_of_name (by decide)) (Nat.le_of_ble_eq_true rfl) (fun b H F hS hP hH hnm => ?_)
  have hk0 : kp [a, na, va] H H := kp.rf
  refine yy_aload_n F d_S_takeOut_0 (n := 1) rfl 0 rfl ?_
  refine yy_iload_n F d_S_takeOut_1 (n := 2) rfl 1 rfl ?_
  refine yy_cri (w := 1) F hS (c_S_isHeld (p := nI j) X hn) (yy_Bc F X.1 q_461 q_11) (yy_invV (nA := 1) (C := R_S) (bytes := b_S_isHeld) (maxL := 2) (retY := (some .boolean)) F X.1 q_458 q_459 q_460 q_461 ⟨by decide, by decide, by decide +kernel⟩ (yy_recv F.N X.2.1 (ci := 0) rfl hP.1) rfl d_S_takeOut_2) d_S_takeOut_2 (n := 5) rfl (by simp [Value.category]) ⟨by decide, by decide⟩ ⟨Nat.le_refl _, Nat.le_refl _⟩ ⟨rfl, rfl⟩ hP (ym_nt (ym_inb_t (ym_in.of hj (by omega)))) (fun _ hS_1 => ?_)
  refine yy_if_eq_f (tgt := 33) F d_S_takeOut_5 (n := 8) rfl (by decide) (by decide) ?_
  refine yy_aload_n F d_S_takeOut_8 (n := 9) rfl 0 rfl ?_
  refine yy_iload_n F d_S_takeOut_9 (n := 10) rfl 1 rfl ?_
  refine yy_cv F hS_1 (c_S_closeGap X hn ok hj) (yy_Bc F X.1 q_543 q_11) (yy_invV (nA := 1) (C := R_S) (bytes := b_S_closeGap) (maxL := 3) (retY := none) F X.1 q_540 q_542 qs_S_closeGap q_543 ⟨by decide, by decide, by decide +kernel⟩ (yy_recv F.N X.2.1 (ci := 0) rfl hP.1) rfl d_S_takeOut_10) d_S_takeOut_10 (n := 13) rfl (by simp [Value.category]) ⟨by decide, by decide⟩ ⟨Nat.le_refl _, Nat.le_refl _⟩ ⟨rfl, rfl⟩ hP (fun Hw_2 locs_w_2 qw_2 Sw_2 => ?_)
  obtain ⟨Pw_2, kw_2⟩ := qw_2
  have kw_2 := hk0.tr kw_2
  refine yy_aload_n F d_S_takeOut_13 (n := 14) rfl 0 rfl ?_
  refine yy_dup F d_S_takeOut_14 (n := 15) rfl rfl ?_
  refine yy_get F X.1 X.2.1 g_S_18_S Pw_2.1 rfl d_S_takeOut_15 (n := 18) rfl ?_
  refine yy_iconst (v := 1) F d_S_takeOut_18 (n := 19) rfl rfl ?_
  refine yy_isub F d_S_takeOut_19 (n := 20) rfl ?_
  refine sr_cnt F X g_S_18_S Sw_2 ok Pw_2 kw_2 (n - 1) (ym_sub1 (by omega)) d_S_takeOut_20 (n' := 23) rfl (fun Hw_3 locs_w_3 Pw_3 kw_3 Sw_3 => ?_)
  refine yy_aload_n F d_S_takeOut_23 (n := 24) rfl 0 rfl ?_
  refine yy_dup F d_S_takeOut_24 (n := 25) rfl rfl ?_
  refine yy_get F X.1 X.2.1 g_S_25_S Pw_3.1 rfl d_S_takeOut_25 (n := 28) rfl ?_
  refine yy_iconst (v := 1) F d_S_takeOut_28 (n := 29) rfl rfl ?_
  refine yy_iadd F d_S_takeOut_29 (n := 30) rfl ?_
  refine sr_chg F X g_S_25_S Sw_3 ok Pw_3 kw_3 d_S_takeOut_30 (n' := 33) rfl (fun Hw_4 locs_w_4 Pw_4 kw_4 Sw_4 => ?_)
  exact yy_vret F Sw_4 ⟨Nat.zero_le _, Nat.zero_le _⟩ rfl d_S_takeOut_33 (⟨rfl, Pw_4, kw_4⟩)
end
section
/-! PART S4: what comes into a store -/
/-- a ROW that has no room left gets half of it more -/
def ym_row (kd rm : Int32) (n : Nat) : Int32 := if kd = 0 ∧ ¬ nI n < rm then rm + rm / 2 else rm
/-- a TABLE or RECENT has twice as many buckets, if more than three quarters are used -/
def ym_bkt (kd rm : Int32) (n : Nat) : Int32 := if (kd = 2 ∨ kd = 3) ∧ rm * 3 < nI n * 4 then rm * 2 else rm
set_option maxRecDepth 100000 in
set_option maxHeartbeats 4000000 in
/-- brings a number with a value in at a place -/
theorem c_S_bringIn {l : Launch} {z : State} {a0 : Array Value} {D : va_G} {ca : kca} (X : kcx l z a0 D ca) {a na va n : Nat} {kd rm ch : Int32} {nf vf : Nat → Int32} (hn : n ≤ 24) (ok : st_ok z a na va) {j : Nat} {x v : Int32} (hj : j ≤ n) (h24 : n < 24) : yy_M l z y_S_bringIn (.code y_S_bringIn b_S_bringIn 5 none) ({ frames := 1, cells := 0, slots := 0, locals := 20 }) [.ref a, .int (nI j), .int x, .int v] (fun H => st_at D ca H a na va kd rm ch n nf vf) (yy_pv (fun H H1 => st_at D ca H1 a na va kd (ym_row kd rm n) (ch + 1) (n + 1) (upd (ym_up nf j n) j x) (upd (ym_up vf j n) j v) ∧ kp [a, na, va] H H1)) := by
  refine yy_body (plainFor_of_name (by decide)) (Nat.le_of_ble_eq_true rfl) (fun b H F hS hP hH hnm => ?_)
  have hk0 : kp [a, na, va] H H := kp.rf
  have tail : ∀ (r : Int32) (H1 : Heap) (locs : List Loc), r = ym_row kd rm n → st_at D ca H1 a na va kd r ch n nf vf → kp [a, na, va] H H1 → yy_S z H1 locs → yy_Y b H1 locs (0, 0) 53 [(0, .ref a), (1, .int (nI j)), (2, .int x), (3, .int v)] [] := by
    intro r H0 locs0 hr P0 k0 S0
    subst hr
    have loop : ∀ (d : Nat) (H1 : Heap) (locs : List Loc), j + d ≤ n → st_at D ca H1 a na va kd (ym_row kd rm n) ch n (ym_up nf (j + d) n) (ym_up vf (j + d) n) → kp [a, na, va] H H1 → yy_S z H1 locs → yy_Y b H1 locs (0, 0) 59 [(4, .int (nI (j + d))), (0, .ref a), (1, .int (nI j)), (2, .int x), (3, .int v)] [] := by
      intro d
      induction d with
      | zero =>
        intro H1 locs hd P1 k1 S1
        refine yy_iload F d_S_bringIn_59 (n := 61) rfl 0 rfl ?_
        refine yy_iload_n F d_S_bringIn_61 (n := 62) rfl 2 rfl ?_
        refine yy_ic_le_t (tgt := 103) F d_S_bringIn_62 (by decide) (nI_le (by omega) (by omega)) ?_
        refine yy_aload_n F d_S_bringIn_103 (n := 104) rfl 1 rfl ?_
        refine yy_get F X.1 X.2.1 g_S_9_S P1.1 rfl d_S_bringIn_104 (n := 107) rfl ?_
        refine yy_iload_n F d_S_bringIn_107 (n := 108) rfl 2 rfl ?_
        refine yy_iload_n F d_S_bringIn_108 (n := 109) rfl 3 rfl ?_
        refine sr_num F X  S1 ok P1 k1 (i := j) (by omega) d_S_bringIn_109 (n' := 110) rfl (fun Hw_1 locs_w_1 Pw_1 kw_1 Sw_1 => ?_)
        refine yy_aload_n F d_S_bringIn_110 (n := 111) rfl 1 rfl ?_
        refine yy_get F X.1 X.2.1 g_S_15_S Pw_1.1 rfl d_S_bringIn_111 (n := 114) rfl ?_
        refine yy_iload_n F d_S_bringIn_114 (n := 115) rfl 2 rfl ?_
        refine yy_iload_n F d_S_bringIn_115 (n := 116) rfl 4 rfl ?_
        refine sr_val F X  Sw_1 ok Pw_1 kw_1 (i := j) (by omega) d_S_bringIn_116 (n' := 117) rfl (fun Hw_2 locs_w_2 Pw_2 kw_2 Sw_2 => ?_)
        refine yy_aload_n F d_S_bringIn_117 (n := 118) rfl 1 rfl ?_
        refine yy_dup F d_S_bringIn_118 (n := 119) rfl rfl ?_
        refine yy_get F X.1 X.2.1 g_S_18_S Pw_2.1 rfl d_S_bringIn_119 (n := 122) rfl ?_
        refine yy_iconst (v := 1) F d_S_bringIn_122 (n := 123) rfl rfl ?_
        refine yy_iadd F d_S_bringIn_123 (n := 124) rfl ?_
        refine sr_cnt F X g_S_18_S Sw_2 ok Pw_2 kw_2 (n + 1) (nI_1 _) d_S_bringIn_124 (n' := 127) rfl (fun Hw_3 locs_w_3 Pw_3 kw_3 Sw_3 => ?_)
        refine yy_aload_n F d_S_bringIn_127 (n := 128) rfl 1 rfl ?_
        refine yy_dup F d_S_bringIn_128 (n := 129) rfl rfl ?_
        refine yy_get F X.1 X.2.1 g_S_25_S Pw_3.1 rfl d_S_bringIn_129 (n := 132) rfl ?_
        refine yy_iconst (v := 1) F d_S_bringIn_132 (n := 133) rfl rfl ?_
        refine yy_iadd F d_S_bringIn_133 (n := 134) rfl ?_
        refine sr_chg F X g_S_25_S Sw_3 ok Pw_3 kw_3 d_S_bringIn_134 (n' := 137) rfl (fun Hw_4 locs_w_4 Pw_4 kw_4 Sw_4 => ?_)
        exact yy_vret F Sw_4 ⟨Nat.zero_le _, Nat.zero_le _⟩ rfl d_S_bringIn_137 (⟨rfl, Pw_4, kw_4⟩)
      | succ d ih =>
        intro H1 locs hd P1 k1 S1
        show yy_Y b H1 locs (0, 0) 59 [(4, .int (nI (j + d + 1))), (0, .ref a), (1, .int (nI j)), (2, .int x), (3, .int v)] []
        refine yy_iload F d_S_bringIn_59 (n := 61) rfl 0 rfl ?_
        refine yy_iload_n F d_S_bringIn_61 (n := 62) rfl 2 rfl ?_
        refine yy_ic_le_f (tgt := 103) F d_S_bringIn_62 (n := 65) rfl (by decide) (nI_ge (by omega) (by omega)) ?_
        refine yy_aload_n F d_S_bringIn_65 (n := 66) rfl 1 rfl ?_
        refine yy_get F X.1 X.2.1 g_S_9_S P1.1 rfl d_S_bringIn_66 (n := 69) rfl ?_
        refine yy_iload F d_S_bringIn_69 (n := 71) rfl 0 rfl ?_
        refine yy_aload_n F d_S_bringIn_71 (n := 72) rfl 1 rfl ?_
        refine yy_get F X.1 X.2.1 g_S_9_S P1.1 rfl d_S_bringIn_72 (n := 75) rfl ?_
        refine yy_iload F d_S_bringIn_75 (n := 77) rfl 0 rfl ?_
        refine yy_iconst (v := 1) F d_S_bringIn_77 (n := 78) rfl rfl ?_
        refine yy_isub F d_S_bringIn_78 (n := 79) rfl ?_
        refine yy_tope (y := (nI (j + d))) (nI_pred _) ?_
        refine sr_ald (i := (j + d)) F X P1.2.1 (by decide) (by omega) d_S_bringIn_79 (n' := 80) rfl ?_
        refine sr_num F X  S1 ok P1 k1 (i := j + d + 1) (by omega) d_S_bringIn_80 (n' := 81) rfl (fun Hw_5 locs_w_5 Pw_5 kw_5 Sw_5 => ?_)
        refine yy_aload_n F d_S_bringIn_81 (n := 82) rfl 1 rfl ?_
        refine yy_get F X.1 X.2.1 g_S_15_S Pw_5.1 rfl d_S_bringIn_82 (n := 85) rfl ?_
        refine yy_iload F d_S_bringIn_85 (n := 87) rfl 0 rfl ?_
        refine yy_aload_n F d_S_bringIn_87 (n := 88) rfl 1 rfl ?_
        refine yy_get F X.1 X.2.1 g_S_15_S Pw_5.1 rfl d_S_bringIn_88 (n := 91) rfl ?_
        refine yy_iload F d_S_bringIn_91 (n := 93) rfl 0 rfl ?_
        refine yy_iconst (v := 1) F d_S_bringIn_93 (n := 94) rfl rfl ?_
        refine yy_isub F d_S_bringIn_94 (n := 95) rfl ?_
        refine yy_tope (y := (nI (j + d))) (nI_pred _) ?_
        refine sr_ald (i := (j + d)) F X Pw_5.2.2 (by decide) (by omega) d_S_bringIn_95 (n' := 96) rfl ?_
        refine sr_val F X  Sw_5 ok Pw_5 kw_5 (i := j + d + 1) (by omega) d_S_bringIn_96 (n' := 97) rfl (fun Hw_6 locs_w_6 Pw_6 kw_6 Sw_6 => ?_)
        refine yy_iinc (v := nI (j + d)) (lv' := [(4, .int (nI (j + d))), (0, .ref a), (1, .int (nI j)), (2, .int x), (3, .int v)]) F d_S_bringIn_97 (n := 100) rfl 0 rfl (pk_m1 _) (by decide) rfl ?_
        refine yy_goto (tgt := 59) F d_S_bringIn_100 (by decide) ?_
        exact yy_sub [0, 1, 2, 3, 4] rfl (ih _ _ (by omega) (by rw [← ym_up_s nf (show j + d + 1 ≤ n by omega), ← ym_up_s vf (show j + d + 1 ≤ n by omega)]; exact Pw_6) kw_6 Sw_6)
    refine yy_aload_n F d_S_bringIn_53 (n := 54) rfl 0 rfl ?_
    refine yy_get F X.1 X.2.1 g_S_18_S P0.1 rfl d_S_bringIn_54 (n := 57) rfl ?_
    refine yy_istore (lv' := [(4, .int (nI n)), (0, .ref a), (1, .int (nI j)), (2, .int x), (3, .int v)]) F d_S_bringIn_57 (n := 59) rfl (by decide) rfl ?_
    have h9 := loop (n - j) H0 locs0 (by omega) (by rw [show j + (n - j) = n by omega, ym_up_0, ym_up_0]; exact P0) k0 S0
    rw [show j + (n - j) = n by omega] at h9
    exact h9
  refine yy_aload_n F d_S_bringIn_0 (n := 1) rfl 0 rfl ?_
  refine yy_cri (w := 0) F hS (c_S_isFull X hn) (yy_Bc F X.1 q_498 q_11) (yy_invV (nA := 0) (C := R_S) (bytes := b_S_isFull) (maxL := 1) (retY := (some .boolean)) F X.1 q_512 q_496 q_497 q_498 ⟨by decide, by decide, by decide +kernel⟩ (yy_recv F.N X.2.1 (ci := 0) rfl hP.1) rfl d_S_bringIn_1) d_S_bringIn_1 (n := 4) rfl (by simp [Value.category]) ⟨by decide, by decide⟩ ⟨Nat.le_refl _, Nat.le_refl _⟩ ⟨rfl, rfl⟩ hP (ym_nf (decide_eq_false (by omega))) (fun _ hS_7 => ?_)
  refine yy_if_ne_f (tgt := 19) F d_S_bringIn_4 (n := 7) rfl (by decide) rfl ?_
  refine yy_iload_n F d_S_bringIn_7 (n := 8) rfl 1 rfl ?_
  refine yy_if_lt_f (tgt := 19) F d_S_bringIn_8 (n := 11) rfl (by decide) (nI_pos (by omega)) ?_
  refine yy_iload_n F d_S_bringIn_11 (n := 12) rfl 1 rfl ?_
  refine yy_aload_n F d_S_bringIn_12 (n := 13) rfl 0 rfl ?_
  refine yy_get F X.1 X.2.1 g_S_18_S hP.1 rfl d_S_bringIn_13 (n := 16) rfl ?_
  refine yy_ic_le_t (tgt := 20) F d_S_bringIn_16 (by decide) (nI_le hj (by omega)) ?_
  refine yy_aload_n F d_S_bringIn_20 (n := 21) rfl 0 rfl ?_
  refine yy_get F X.1 X.2.1 g_S_28_S hP.1 rfl d_S_bringIn_21 (n := 24) rfl ?_
  refine yy_if_ne (tgt := 53) F d_S_bringIn_24 (n := 27) rfl (by decide) (fun h1 => ?_) (fun h1 => ?_)
  · exact tail rm H _ (by unfold ym_row; rw [if_neg (fun q => h1 q.1)]) hP hk0 hS_7
  · refine yy_aload_n F d_S_bringIn_27 (n := 28) rfl 0 rfl ?_
    refine yy_get F X.1 X.2.1 g_S_18_S hP.1 rfl d_S_bringIn_28 (n := 31) rfl ?_
    refine yy_aload_n F d_S_bringIn_31 (n := 32) rfl 0 rfl ?_
    refine yy_get F X.1 X.2.1 g_S_22_S hP.1 rfl d_S_bringIn_32 (n := 35) rfl ?_
    refine yy_ic_lt (tgt := 53) F d_S_bringIn_35 (n := 38) rfl (by decide) (fun h2 => ?_) (fun h2 => ?_)
    · exact tail rm H _ (by unfold ym_row; rw [if_neg (fun q => q.2 h2)]) hP hk0 hS_7
    · refine yy_aload_n F d_S_bringIn_38 (n := 39) rfl 0 rfl ?_
      refine yy_dup F d_S_bringIn_39 (n := 40) rfl rfl ?_
      refine yy_get F X.1 X.2.1 g_S_22_S hP.1 rfl d_S_bringIn_40 (n := 43) rfl ?_
      refine yy_aload_n F d_S_bringIn_43 (n := 44) rfl 0 rfl ?_
      refine yy_get F X.1 X.2.1 g_S_22_S hP.1 rfl d_S_bringIn_44 (n := 47) rfl ?_
      refine yy_iconst (v := 2) F d_S_bringIn_47 (n := 48) rfl rfl ?_
      refine yy_idiv F d_S_bringIn_48 (n := 49) rfl (by decide) ?_
      refine yy_iadd F d_S_bringIn_49 (n := 50) rfl ?_
      refine sr_room F X g_S_22_S hS_7 ok hP hk0 d_S_bringIn_50 (n' := 53) rfl (fun Hw_8 locs_w_8 Pw_8 kw_8 Sw_8 => ?_)
      exact tail (rm + rm / 2) _ _ (by unfold ym_row; rw [if_pos ⟨h1, h2⟩]) Pw_8 kw_8 Sw_8
set_option maxRecDepth 100000 in
set_option maxHeartbeats 4000000 in
/-- a key of no RECENT, or not there, or the last: nothing changes -/
theorem c_S_noteUse_no {l : Launch} {z : State} {a0 : Array Value} {D : va_G} {ca : kca} (X : kcx l z a0 D ca) {a na va n : Nat} {kd rm ch : Int32} {nf vf : Nat → Int32} (hn : n ≤ 24) (ok : st_ok z a na va) {key : Int32} (hno : kd = 3 → ym_find nf key n = -1 ∨ ym_find nf key n = nI n - 1) : yy_M l z y_S_noteUse (.code y_S_noteUse b_S_noteUse 4 none) ({ frames := 1, cells := 0, slots := 0, locals := 22 }) [.ref a, .int key] (fun H => st_at D ca H a na va kd rm ch n nf vf) (yy_pv (fun H H1 => st_at D ca H1 a na va kd rm ch n nf vf ∧ kp [a, na, va] H H1)) := by
  refine yy_body (plainFor_of_name (by decide)) (Nat.le_of_ble_eq_true rfl) (fun b H F hS hP hH hnm => ?_)
  have hk0 : kp [a, na, va] H H := kp.rf
  refine yy_aload_n F d_S_noteUse_0 (n := 1) rfl 0 rfl ?_
  refine yy_iload_n F d_S_noteUse_1 (n := 2) rfl 1 rfl ?_
  refine yy_cri (w := (ym_find nf key n)) F hS (c_S_placeOf (key := key) X hn) (yy_Bc F X.1 q_619 q_11) (yy_invV (nA := 1) (C := R_S) (bytes := b_S_placeOf) (maxL := 3) (retY := (some .int)) F X.1 q_624 q_617 q_618 q_619 ⟨by decide, by decide, by decide +kernel⟩ (yy_recv F.N X.2.1 (ci := 0) rfl hP.1) rfl d_S_noteUse_2) d_S_noteUse_2 (n := 5) rfl (by simp [Value.category]) ⟨by decide, by decide⟩ ⟨Nat.le_refl _, Nat.le_refl _⟩ ⟨rfl, rfl⟩ hP rfl (fun _ hS_1 => ?_)
  refine yy_istore_n (lv' := [(2, .int (ym_find nf key n)), (0, .ref a), (1, .int key)]) F d_S_noteUse_5 (n := 6) rfl (by decide) rfl ?_
  refine yy_aload_n F d_S_noteUse_6 (n := 7) rfl 1 rfl ?_
  refine yy_get F X.1 X.2.1 g_S_28_S hP.1 rfl d_S_noteUse_7 (n := 10) rfl ?_
  refine yy_iconst (v := 3) F d_S_noteUse_10 (n := 11) rfl rfl ?_
  refine yy_ic_ne (tgt := 29) F d_S_noteUse_11 (n := 14) rfl (by decide) (fun h1 => ?_) (fun h1 => ?_)
  · exact yy_vret F hS_1 ⟨Nat.zero_le _, Nat.zero_le _⟩ rfl d_S_noteUse_29 (⟨rfl, hP, hk0⟩)
  · refine yy_iload_n F d_S_noteUse_14 (n := 15) rfl 0 rfl ?_
    refine yy_iconst (v := (-1)) F d_S_noteUse_15 (n := 16) rfl rfl ?_
    refine yy_ic_eq (tgt := 29) F d_S_noteUse_16 (n := 19) rfl (by decide) (fun h2 => ?_) (fun h2 => ?_)
    · exact yy_vret F hS_1 ⟨Nat.zero_le _, Nat.zero_le _⟩ rfl d_S_noteUse_29 (⟨rfl, hP, hk0⟩)
    · refine yy_iload_n F d_S_noteUse_19 (n := 20) rfl 0 rfl ?_
      refine yy_aload_n F d_S_noteUse_20 (n := 21) rfl 1 rfl ?_
      refine yy_get F X.1 X.2.1 g_S_18_S hP.1 rfl d_S_noteUse_21 (n := 24) rfl ?_
      refine yy_iconst (v := 1) F d_S_noteUse_24 (n := 25) rfl rfl ?_
      refine yy_isub F d_S_noteUse_25 (n := 26) rfl ?_
      refine yy_ic_ne (tgt := 30) F d_S_noteUse_26 (n := 29) rfl (by decide) (fun h3 => ?_) (fun h3 => ?_)
      · exact absurd ((hno h1).resolve_left h2) h3
      · exact yy_vret F hS_1 ⟨Nat.zero_le _, Nat.zero_le _⟩ rfl d_S_noteUse_29 (⟨rfl, hP, hk0⟩)
set_option maxRecDepth 100000 in
set_option maxHeartbeats 4000000 in
/-- a key of a RECENT that is not the last becomes it -/
theorem c_S_noteUse {l : Launch} {z : State} {a0 : Array Value} {D : va_G} {ca : kca} (X : kcx l z a0 D ca) {a na va n : Nat} {kd rm ch : Int32} {nf vf : Nat → Int32} (hn : n ≤ 24) (ok : st_ok z a na va) {key : Int32} {j : Nat} (hkd : kd = 3) (hf : ym_find nf key n = nI j) (hj : j + 1 < n) : yy_M l z y_S_noteUse (.code y_S_noteUse b_S_noteUse 4 none) ({ frames := 1, cells := 0, slots := 0, locals := 22 }) [.ref a, .int key] (fun H => st_at D ca H a na va kd rm ch n nf vf) (yy_pv (fun H H1 => st_at D ca H1 a na va kd rm (ch + 1) n (upd (ym_sh nf j (n - 1)) (n - 1) key) (upd (ym_sh vf j (n - 1)) (n - 1) (vf j)) ∧ kp [a, na, va] H H1)) := by
  refine yy_body (plainFor_of_name (by decide)) (Nat.le_of_ble_eq_true rfl) (fun b H F hS hP hH hnm => ?_)
  have hk0 : kp [a, na, va] H H := kp.rf
  refine yy_aload_n F d_S_noteUse_0 (n := 1) rfl 0 rfl ?_
  refine yy_iload_n F d_S_noteUse_1 (n := 2) rfl 1 rfl ?_
  refine yy_cri (w := (nI j)) F hS (c_S_placeOf (key := key) X hn) (yy_Bc F X.1 q_619 q_11) (yy_invV (nA := 1) (C := R_S) (bytes := b_S_placeOf) (maxL := 3) (retY := (some .int)) F X.1 q_624 q_617 q_618 q_619 ⟨by decide, by decide, by decide +kernel⟩ (yy_recv F.N X.2.1 (ci := 0) rfl hP.1) rfl d_S_noteUse_2) d_S_noteUse_2 (n := 5) rfl (by simp [Value.category]) ⟨by decide, by decide⟩ ⟨Nat.le_refl _, Nat.le_refl _⟩ ⟨rfl, rfl⟩ hP hf (fun _ hS_1 => ?_)
  refine yy_istore_n (lv' := [(2, .int (nI j)), (0, .ref a), (1, .int key)]) F d_S_noteUse_5 (n := 6) rfl (by decide) rfl ?_
  refine yy_aload_n F d_S_noteUse_6 (n := 7) rfl 1 rfl ?_
  refine yy_get F X.1 X.2.1 g_S_28_S hP.1 rfl d_S_noteUse_7 (n := 10) rfl ?_
  refine yy_iconst (v := 3) F d_S_noteUse_10 (n := 11) rfl rfl ?_
  refine yy_ic_ne_f (tgt := 29) F d_S_noteUse_11 (n := 14) rfl (by decide) hkd ?_
  refine yy_iload_n F d_S_noteUse_14 (n := 15) rfl 0 rfl ?_
  refine yy_iconst (v := (-1)) F d_S_noteUse_15 (n := 16) rfl rfl ?_
  refine yy_ic_eq_f (tgt := 29) F d_S_noteUse_16 (n := 19) rfl (by decide) (ym_nm1 (by omega)) ?_
  refine yy_iload_n F d_S_noteUse_19 (n := 20) rfl 0 rfl ?_
  refine yy_aload_n F d_S_noteUse_20 (n := 21) rfl 1 rfl ?_
  refine yy_get F X.1 X.2.1 g_S_18_S hP.1 rfl d_S_noteUse_21 (n := 24) rfl ?_
  refine yy_iconst (v := 1) F d_S_noteUse_24 (n := 25) rfl rfl ?_
  refine yy_isub F d_S_noteUse_25 (n := 26) rfl ?_
  refine yy_tope (y := (nI (n - 1))) (ym_sub1 (by omega)) ?_
  refine yy_ic_ne_t (tgt := 30) F d_S_noteUse_26 (by decide) (fun q => by have := (nI_eq (by omega) (by omega)).mp q; omega) ?_
  refine yy_aload_n F d_S_noteUse_30 (n := 31) rfl 1 rfl ?_
  refine yy_get F X.1 X.2.1 g_S_15_S hP.1 rfl d_S_noteUse_31 (n := 34) rfl ?_
  refine yy_iload_n F d_S_noteUse_34 (n := 35) rfl 0 rfl ?_
  refine sr_ald (i := j) F X hP.2.2 (by decide) (by omega) d_S_noteUse_35 (n' := 36) rfl ?_
  refine yy_istore_n (lv' := [(3, .int (vf j)), (2, .int (nI j)), (0, .ref a), (1, .int key)]) F d_S_noteUse_36 (n := 37) rfl (by decide) rfl ?_
  refine yy_aload_n F d_S_noteUse_37 (n := 38) rfl 2 rfl ?_
  refine yy_iload_n F d_S_noteUse_38 (n := 39) rfl 1 rfl ?_
  refine yy_cv F hS_1 (c_S_closeGap X hn ok (show j < n by omega)) (yy_Bc F X.1 q_543 q_11) (yy_invV (nA := 1) (C := R_S) (bytes := b_S_closeGap) (maxL := 3) (retY := none) F X.1 q_540 q_542 qs_S_closeGap q_543 ⟨by decide, by decide, by decide +kernel⟩ (yy_recv F.N X.2.1 (ci := 0) rfl hP.1) rfl d_S_noteUse_39) d_S_noteUse_39 (n := 42) rfl (by simp [Value.category]) ⟨by decide, by decide⟩ ⟨Nat.le_refl _, Nat.le_refl _⟩ ⟨rfl, rfl⟩ hP (fun Hw_2 locs_w_2 qw_2 Sw_2 => ?_)
  obtain ⟨Pw_2, kw_2⟩ := qw_2
  have kw_2 := hk0.tr kw_2
  refine yy_aload_n F d_S_noteUse_42 (n := 43) rfl 2 rfl ?_
  refine yy_get F X.1 X.2.1 g_S_9_S Pw_2.1 rfl d_S_noteUse_43 (n := 46) rfl ?_
  refine yy_aload_n F d_S_noteUse_46 (n := 47) rfl 2 rfl ?_
  refine yy_get F X.1 X.2.1 g_S_18_S Pw_2.1 rfl d_S_noteUse_47 (n := 50) rfl ?_
  refine yy_iconst (v := 1) F d_S_noteUse_50 (n := 51) rfl rfl ?_
  refine yy_isub F d_S_noteUse_51 (n := 52) rfl ?_
  refine yy_tope (y := (nI (n - 1))) (ym_sub1 (by omega)) ?_
  refine yy_iload_n F d_S_noteUse_52 (n := 53) rfl 3 rfl ?_
  refine sr_num F X  Sw_2 ok Pw_2 kw_2 (i := n - 1) (by omega) d_S_noteUse_53 (n' := 54) rfl (fun Hw_3 locs_w_3 Pw_3 kw_3 Sw_3 => ?_)
  refine yy_aload_n F d_S_noteUse_54 (n := 55) rfl 2 rfl ?_
  refine yy_get F X.1 X.2.1 g_S_15_S Pw_3.1 rfl d_S_noteUse_55 (n := 58) rfl ?_
  refine yy_aload_n F d_S_noteUse_58 (n := 59) rfl 2 rfl ?_
  refine yy_get F X.1 X.2.1 g_S_18_S Pw_3.1 rfl d_S_noteUse_59 (n := 62) rfl ?_
  refine yy_iconst (v := 1) F d_S_noteUse_62 (n := 63) rfl rfl ?_
  refine yy_isub F d_S_noteUse_63 (n := 64) rfl ?_
  refine yy_tope (y := (nI (n - 1))) (ym_sub1 (by omega)) ?_
  refine yy_iload_n F d_S_noteUse_64 (n := 65) rfl 0 rfl ?_
  refine sr_val F X  Sw_3 ok Pw_3 kw_3 (i := n - 1) (by omega) d_S_noteUse_65 (n' := 66) rfl (fun Hw_4 locs_w_4 Pw_4 kw_4 Sw_4 => ?_)
  refine yy_aload_n F d_S_noteUse_66 (n := 67) rfl 2 rfl ?_
  refine yy_dup F d_S_noteUse_67 (n := 68) rfl rfl ?_
  refine yy_get F X.1 X.2.1 g_S_25_S Pw_4.1 rfl d_S_noteUse_68 (n := 71) rfl ?_
  refine yy_iconst (v := 1) F d_S_noteUse_71 (n := 72) rfl rfl ?_
  refine yy_iadd F d_S_noteUse_72 (n := 73) rfl ?_
  refine sr_chg F X g_S_25_S Sw_4 ok Pw_4 kw_4 d_S_noteUse_73 (n' := 76) rfl (fun Hw_5 locs_w_5 Pw_5 kw_5 Sw_5 => ?_)
  exact yy_vret F Sw_5 ⟨Nat.zero_le _, Nat.zero_le _⟩ rfl d_S_noteUse_76 (⟨rfl, Pw_5, kw_5⟩)
end
section
/-! PART S5: keys that are put -/
/-- where a new key comes in -/
def ym_pl (kd : Int32) (nf : Nat → Int32) (key : Int32) (n : Nat) : Nat := if kd = 4 then ym_cnt (ym_bel nf key 0) n else n
theorem ym_pl_le (kd : Int32) (nf : Nat → Int32) (key : Int32) (n : Nat) : ym_pl kd nf key n ≤ n := by
  unfold ym_pl
  split
  · exact ym_cnt_le _ _
  · exact Nat.le_refl _
/-- a row with one more -/
def ym_ad (f : Nat → Int32) (j n : Nat) (x : Int32) : Nat → Int32 := upd (ym_up f j n) j x
set_option maxRecDepth 100000 in
set_option maxHeartbeats 4000000 in
/-- a new key comes in -/
theorem c_S_bringKeyIn {l : Launch} {z : State} {a0 : Array Value} {D : va_G} {ca : kca} (X : kcx l z a0 D ca) {a na va n : Nat} {kd rm ch : Int32} {nf vf : Nat → Int32} (hn : n ≤ 24) (ok : st_ok z a na va) {key v : Int32} (hkz : ¬ kd = 0) (h24 : n < 24) (hno : kd = 3 → n + 1 < 7) : yy_M l z y_S_bringKeyIn (.code y_S_bringKeyIn b_S_bringKeyIn 3 none) ({ frames := 2, cells := 0, slots := 0, locals := 44 }) [.ref a, .int key, .int v] (fun H => st_at D ca H a na va kd rm ch n nf vf) (yy_pv (fun H H1 => st_at D ca H1 a na va kd (ym_bkt kd rm (n + 1)) (ch + 1) (n + 1) (ym_ad nf (ym_pl kd nf key n) n key) (ym_ad vf (ym_pl kd nf key n) n v) ∧ kp [a, na, va] H H1)) := by
  refine yy_body (plainFor_of_name (by decide)) (Nat.le_of_ble_eq_true rfl) (fun b H F hS hP hH hnm => ?_)
  have hk0 : kp [a, na, va] H H := kp.rf
  have end_ : ∀ (H1 : Heap) (locs : List Loc), st_at D ca H1 a na va kd (ym_bkt kd rm (n + 1)) (ch + 1) (n + 1) (ym_ad nf (ym_pl kd nf key n) n key) (ym_ad vf (ym_pl kd nf key n) n v) → kp [a, na, va] H H1 → yy_S z H1 locs → yy_Y b H1 locs (0, 0) 68 [(0, .ref a), (1, .int key), (2, .int v)] [] := by
    intro H1 locs P1 k1 S1
    refine yy_aload_n F d_S_bringKeyIn_68 (n := 69) rfl 0 rfl ?_
    refine yy_get F X.1 X.2.1 g_S_28_S P1.1 rfl d_S_bringKeyIn_69 (n := 72) rfl ?_
    refine yy_iconst (v := 3) F d_S_bringKeyIn_72 (n := 73) rfl rfl ?_
    refine yy_ic_ne (tgt := 90) F d_S_bringKeyIn_73 (n := 76) rfl (by decide) (fun h1 => ?_) (fun h1 => ?_)
    · exact yy_vret F S1 ⟨Nat.zero_le _, Nat.zero_le _⟩ rfl d_S_bringKeyIn_90 (⟨rfl, P1, k1⟩)
    · refine yy_aload_n F d_S_bringKeyIn_76 (n := 77) rfl 0 rfl ?_
      refine yy_get F X.1 X.2.1 g_S_18_S P1.1 rfl d_S_bringKeyIn_77 (n := 80) rfl ?_
      refine yy_bipush (v := 7) F d_S_bringKeyIn_80 (n := 82) rfl rfl ?_
      refine yy_ic_lt_t (tgt := 90) F d_S_bringKeyIn_82 (by decide) ((ym_lt (k := 7) rfl (by omega)).mpr (hno h1)) ?_
      exact yy_vret F S1 ⟨Nat.zero_le _, Nat.zero_le _⟩ rfl d_S_bringKeyIn_90 (⟨rfl, P1, k1⟩)
  have mid : ∀ (H1 : Heap) (locs : List Loc), st_at D ca H1 a na va kd rm (ch + 1) (n + 1) (ym_ad nf (ym_pl kd nf key n) n key) (ym_ad vf (ym_pl kd nf key n) n v) → kp [a, na, va] H H1 → yy_S z H1 locs → yy_Y b H1 locs (0, 0) 27 [(0, .ref a), (1, .int key), (2, .int v)] [] := by
    intro H1 locs P1 k1 S1
    have look : (kd = 2 ∨ kd = 3) → yy_Y b H1 locs (0, 0) 43 [(0, .ref a), (1, .int key), (2, .int v)] [] := by
      intro h23
      refine yy_aload_n F d_S_bringKeyIn_43 (n := 44) rfl 0 rfl ?_
      refine yy_get F X.1 X.2.1 g_S_18_S P1.1 rfl d_S_bringKeyIn_44 (n := 47) rfl ?_
      refine yy_iconst (v := 4) F d_S_bringKeyIn_47 (n := 48) rfl rfl ?_
      refine yy_imul F d_S_bringKeyIn_48 (n := 49) rfl ?_
      refine yy_aload_n F d_S_bringKeyIn_49 (n := 50) rfl 0 rfl ?_
      refine yy_get F X.1 X.2.1 g_S_22_S P1.1 rfl d_S_bringKeyIn_50 (n := 53) rfl ?_
      refine yy_iconst (v := 3) F d_S_bringKeyIn_53 (n := 54) rfl rfl ?_
      refine yy_imul F d_S_bringKeyIn_54 (n := 55) rfl ?_
      refine yy_ic_le (tgt := 68) F d_S_bringKeyIn_55 (n := 58) rfl (by decide) (fun h2 => ?_) (fun h2 => ?_)
      · exact end_ H1 _ (by rw [show ym_bkt kd rm (n + 1) = rm from if_neg (fun q => absurd q.2 (Int32.not_lt.mpr h2))]; exact P1) k1 S1
      · refine yy_aload_n F d_S_bringKeyIn_58 (n := 59) rfl 0 rfl ?_
        refine yy_dup F d_S_bringKeyIn_59 (n := 60) rfl rfl ?_
        refine yy_get F X.1 X.2.1 g_S_22_S P1.1 rfl d_S_bringKeyIn_60 (n := 63) rfl ?_
        refine yy_iconst (v := 2) F d_S_bringKeyIn_63 (n := 64) rfl rfl ?_
        refine yy_imul F d_S_bringKeyIn_64 (n := 65) rfl ?_
        refine sr_room F X g_S_22_S S1 ok P1 k1 d_S_bringKeyIn_65 (n' := 68) rfl (fun Hw_1 locs_w_1 Pw_1 kw_1 Sw_1 => ?_)
        exact end_ _ _ (by rw [show ym_bkt kd rm (n + 1) = rm * 2 from if_pos ⟨h23, Int32.not_le.mp h2⟩]; exact Pw_1) kw_1 Sw_1
    refine yy_aload_n F d_S_bringKeyIn_27 (n := 28) rfl 0 rfl ?_
    refine yy_get F X.1 X.2.1 g_S_28_S P1.1 rfl d_S_bringKeyIn_28 (n := 31) rfl ?_
    refine yy_iconst (v := 2) F d_S_bringKeyIn_31 (n := 32) rfl rfl ?_
    refine yy_ic_eq (tgt := 43) F d_S_bringKeyIn_32 (n := 35) rfl (by decide) (fun h1 => ?_) (fun h1 => ?_)
    · exact look (Or.inl h1)
    · refine yy_aload_n F d_S_bringKeyIn_35 (n := 36) rfl 0 rfl ?_
      refine yy_get F X.1 X.2.1 g_S_28_S P1.1 rfl d_S_bringKeyIn_36 (n := 39) rfl ?_
      refine yy_iconst (v := 3) F d_S_bringKeyIn_39 (n := 40) rfl rfl ?_
      refine yy_ic_ne (tgt := 68) F d_S_bringKeyIn_40 (n := 43) rfl (by decide) (fun h2 => ?_) (fun h2 => ?_)
      · exact end_ H1 _ (by rw [show ym_bkt kd rm (n + 1) = rm from if_neg (fun q => q.1.elim h1 h2)]; exact P1) k1 S1
      · exact look (Or.inr h2)
  have bring : ∀ (j : Nat) (locs : List Loc), j = ym_pl kd nf key n → yy_S z H locs → yy_Y b H locs (0, 0) 22 [(0, .ref a), (1, .int key), (2, .int v)] [.int (nI j), .ref a] := by
    intro j locs hj S1
    refine yy_iload_n F d_S_bringKeyIn_22 (n := 23) rfl 1 rfl ?_
    refine yy_iload_n F d_S_bringKeyIn_23 (n := 24) rfl 2 rfl ?_
    refine yy_cv F S1 (c_S_bringIn (j := j) (x := key) (v := v) X hn ok (by rw [hj]; exact ym_pl_le _ _ _ _) h24) (yy_Bc F X.1 q_511 q_11) (yy_invV (nA := 3) (C := R_S) (bytes := b_S_bringIn) (maxL := 5) (retY := none) F X.1 q_630 q_509 q_510 q_511 ⟨by decide, by decide, by decide +kernel⟩ (yy_recv F.N X.2.1 (ci := 0) rfl hP.1) rfl d_S_bringKeyIn_24) d_S_bringKeyIn_24 (n := 27) rfl (by simp [Value.category]) ⟨by decide, by decide⟩ ⟨Nat.le_refl _, Nat.le_refl _⟩ ⟨rfl, rfl⟩ hP (fun Hw_2 locs_w_2 qw_2 Sw_2 => ?_)
    obtain ⟨Pw_2, kw_2⟩ := qw_2
    have kw_2 := hk0.tr kw_2
    rw [show ym_row kd rm n = rm from if_neg (fun q => hkz q.1), hj] at Pw_2
    exact mid _ _ Pw_2 kw_2 Sw_2
  refine yy_aload_n F d_S_bringKeyIn_0 (n := 1) rfl 0 rfl ?_
  refine yy_aload_n F d_S_bringKeyIn_1 (n := 2) rfl 0 rfl ?_
  refine yy_get F X.1 X.2.1 g_S_28_S hP.1 rfl d_S_bringKeyIn_2 (n := 5) rfl ?_
  refine yy_iconst (v := 4) F d_S_bringKeyIn_5 (n := 6) rfl rfl ?_
  refine yy_ic_ne (tgt := 18) F d_S_bringKeyIn_6 (n := 9) rfl (by decide) (fun h4 => ?_) (fun h4 => ?_)
  · refine yy_aload_n F d_S_bringKeyIn_18 (n := 19) rfl 0 rfl ?_
    refine yy_get F X.1 X.2.1 g_S_18_S hP.1 rfl d_S_bringKeyIn_19 (n := 22) rfl ?_
    exact bring n _ (if_neg h4).symm hS
  · refine yy_aload_n F d_S_bringKeyIn_9 (n := 10) rfl 0 rfl ?_
    refine yy_iload_n F d_S_bringKeyIn_10 (n := 11) rfl 1 rfl ?_
    refine yy_iconst (v := 0) F d_S_bringKeyIn_11 (n := 12) rfl rfl ?_
    refine yy_cri (w := (nI (ym_cnt (ym_bel nf key 0) n))) F hS (c_S_placesBefore (x := key) (e := 0) X hn) (yy_Bc F X.1 q_324 q_11) (yy_invV (nA := 2) (C := R_S) (bytes := b_S_placesBefore) (maxL := 5) (retY := (some .int)) F X.1 q_629 q_322 q_323 q_324 ⟨by decide, by decide, by decide +kernel⟩ (yy_recv F.N X.2.1 (ci := 0) rfl hP.1) rfl d_S_bringKeyIn_12) d_S_bringKeyIn_12 (n := 15) rfl (by simp [Value.category]) ⟨by decide, by decide⟩ ⟨Nat.le_refl _, Nat.le_refl _⟩ ⟨rfl, rfl⟩ hP rfl (fun _ hS_3 => ?_)
    refine yy_goto (tgt := 22) F d_S_bringKeyIn_15 (by decide) ?_
    exact bring _ _ (if_pos h4).symm hS_3
set_option maxRecDepth 100000 in
set_option maxHeartbeats 4000000 in
/-- a new key comes into a RECENT, and the first one goes -/
theorem c_S_bringKeyIn_t {l : Launch} {z : State} {a0 : Array Value} {D : va_G} {ca : kca} (X : kcx l z a0 D ca) {a na va n : Nat} {kd rm ch : Int32} {nf vf : Nat → Int32} (hn : n ≤ 24) (ok : st_ok z a na va) {key v : Int32} (hkz : ¬ kd = 0) (h24 : n < 24) (hkd : kd = 3) (h7 : 7 ≤ n + 1) : yy_M l z y_S_bringKeyIn (.code y_S_bringKeyIn b_S_bringKeyIn 3 none) ({ frames := 2, cells := 0, slots := 0, locals := 44 }) [.ref a, .int key, .int v] (fun H => st_at D ca H a na va kd rm ch n nf vf) (yy_pv (fun H H1 => st_at D ca H1 a na va kd (ym_bkt kd rm (n + 1)) (ch + 1 + 1) (n + 1 - 1) (ym_sh (ym_ad nf (ym_pl kd nf key n) n key) 0 (n + 1 - 1)) (ym_sh (ym_ad vf (ym_pl kd nf key n) n v) 0 (n + 1 - 1)) ∧ kp [a, na, va] H H1)) := by
  refine yy_body (plainFor_of_name (by decide)) (Nat.le_of_ble_eq_true rfl) (fun b H F hS hP hH hnm => ?_)
  have hk0 : kp [a, na, va] H H := kp.rf
  have end_ : ∀ (H1 : Heap) (locs : List Loc), st_at D ca H1 a na va kd (ym_bkt kd rm (n + 1)) (ch + 1) (n + 1) (ym_ad nf (ym_pl kd nf key n) n key) (ym_ad vf (ym_pl kd nf key n) n v) → kp [a, na, va] H H1 → yy_S z H1 locs → yy_Y b H1 locs (0, 0) 68 [(0, .ref a), (1, .int key), (2, .int v)] [] := by
    intro H1 locs P1 k1 S1
    refine yy_aload_n F d_S_bringKeyIn_68 (n := 69) rfl 0 rfl ?_
    refine yy_get F X.1 X.2.1 g_S_28_S P1.1 rfl d_S_bringKeyIn_69 (n := 72) rfl ?_
    refine yy_iconst (v := 3) F d_S_bringKeyIn_72 (n := 73) rfl rfl ?_
    refine yy_ic_ne_f (tgt := 90) F d_S_bringKeyIn_73 (n := 76) rfl (by decide) hkd ?_
    refine yy_aload_n F d_S_bringKeyIn_76 (n := 77) rfl 0 rfl ?_
    refine yy_get F X.1 X.2.1 g_S_18_S P1.1 rfl d_S_bringKeyIn_77 (n := 80) rfl ?_
    refine yy_bipush (v := 7) F d_S_bringKeyIn_80 (n := 82) rfl rfl ?_
    refine yy_ic_lt_f (tgt := 90) F d_S_bringKeyIn_82 (n := 85) rfl (by decide) (fun q => by have := (ym_lt (k := 7) rfl (by omega)).mp q; omega) ?_
    refine yy_aload_n F d_S_bringKeyIn_85 (n := 86) rfl 0 rfl ?_
    refine yy_iconst (v := 0) F d_S_bringKeyIn_86 (n := 87) rfl rfl ?_
    refine yy_cv F S1 (c_S_takeOut (j := 0) X (show n + 1 ≤ 24 by omega) ok (by omega)) (yy_Bc F X.1 q_539 q_11) (yy_invV (nA := 1) (C := R_S) (bytes := b_S_takeOut) (maxL := 2) (retY := none) F X.1 q_631 q_537 q_538 q_539 ⟨by decide, by decide, by decide +kernel⟩ (yy_recv F.N X.2.1 (ci := 0) rfl P1.1) rfl d_S_bringKeyIn_87) d_S_bringKeyIn_87 (n := 90) rfl (by simp [Value.category]) ⟨by decide, by decide⟩ ⟨Nat.le_refl _, Nat.le_refl _⟩ ⟨rfl, rfl⟩ P1 (fun Hw_1 locs_w_1 qw_1 Sw_1 => ?_)
    obtain ⟨Pw_1, kw_1⟩ := qw_1
    have kw_1 := k1.tr kw_1
    exact yy_vret F Sw_1 ⟨Nat.zero_le _, Nat.zero_le _⟩ rfl d_S_bringKeyIn_90 (⟨rfl, Pw_1, kw_1⟩)
  have mid : ∀ (H1 : Heap) (locs : List Loc), st_at D ca H1 a na va kd rm (ch + 1) (n + 1) (ym_ad nf (ym_pl kd nf key n) n key) (ym_ad vf (ym_pl kd nf key n) n v) → kp [a, na, va] H H1 → yy_S z H1 locs → yy_Y b H1 locs (0, 0) 27 [(0, .ref a), (1, .int key), (2, .int v)] [] := by
    intro H1 locs P1 k1 S1
    have look : (kd = 2 ∨ kd = 3) → yy_Y b H1 locs (0, 0) 43 [(0, .ref a), (1, .int key), (2, .int v)] [] := by
      intro h23
      refine yy_aload_n F d_S_bringKeyIn_43 (n := 44) rfl 0 rfl ?_
      refine yy_get F X.1 X.2.1 g_S_18_S P1.1 rfl d_S_bringKeyIn_44 (n := 47) rfl ?_
      refine yy_iconst (v := 4) F d_S_bringKeyIn_47 (n := 48) rfl rfl ?_
      refine yy_imul F d_S_bringKeyIn_48 (n := 49) rfl ?_
      refine yy_aload_n F d_S_bringKeyIn_49 (n := 50) rfl 0 rfl ?_
      refine yy_get F X.1 X.2.1 g_S_22_S P1.1 rfl d_S_bringKeyIn_50 (n := 53) rfl ?_
      refine yy_iconst (v := 3) F d_S_bringKeyIn_53 (n := 54) rfl rfl ?_
      refine yy_imul F d_S_bringKeyIn_54 (n := 55) rfl ?_
      refine yy_ic_le (tgt := 68) F d_S_bringKeyIn_55 (n := 58) rfl (by decide) (fun h2 => ?_) (fun h2 => ?_)
      · exact end_ H1 _ (by rw [show ym_bkt kd rm (n + 1) = rm from if_neg (fun q => absurd q.2 (Int32.not_lt.mpr h2))]; exact P1) k1 S1
      · refine yy_aload_n F d_S_bringKeyIn_58 (n := 59) rfl 0 rfl ?_
        refine yy_dup F d_S_bringKeyIn_59 (n := 60) rfl rfl ?_
        refine yy_get F X.1 X.2.1 g_S_22_S P1.1 rfl d_S_bringKeyIn_60 (n := 63) rfl ?_
        refine yy_iconst (v := 2) F d_S_bringKeyIn_63 (n := 64) rfl rfl ?_
        refine yy_imul F d_S_bringKeyIn_64 (n := 65) rfl ?_
        refine sr_room F X g_S_22_S S1 ok P1 k1 d_S_bringKeyIn_65 (n' := 68) rfl (fun Hw_2 locs_w_2 Pw_2 kw_2 Sw_2 => ?_)
        exact end_ _ _ (by rw [show ym_bkt kd rm (n + 1) = rm * 2 from if_pos ⟨h23, Int32.not_le.mp h2⟩]; exact Pw_2) kw_2 Sw_2
    refine yy_aload_n F d_S_bringKeyIn_27 (n := 28) rfl 0 rfl ?_
    refine yy_get F X.1 X.2.1 g_S_28_S P1.1 rfl d_S_bringKeyIn_28 (n := 31) rfl ?_
    refine yy_iconst (v := 2) F d_S_bringKeyIn_31 (n := 32) rfl rfl ?_
    refine yy_ic_eq (tgt := 43) F d_S_bringKeyIn_32 (n := 35) rfl (by decide) (fun h1 => ?_) (fun h1 => ?_)
    · exact look (Or.inl h1)
    · refine yy_aload_n F d_S_bringKeyIn_35 (n := 36) rfl 0 rfl ?_
      refine yy_get F X.1 X.2.1 g_S_28_S P1.1 rfl d_S_bringKeyIn_36 (n := 39) rfl ?_
      refine yy_iconst (v := 3) F d_S_bringKeyIn_39 (n := 40) rfl rfl ?_
      refine yy_ic_ne (tgt := 68) F d_S_bringKeyIn_40 (n := 43) rfl (by decide) (fun h2 => ?_) (fun h2 => ?_)
      · exact end_ H1 _ (by rw [show ym_bkt kd rm (n + 1) = rm from if_neg (fun q => q.1.elim h1 h2)]; exact P1) k1 S1
      · exact look (Or.inr h2)
  have bring : ∀ (j : Nat) (locs : List Loc), j = ym_pl kd nf key n → yy_S z H locs → yy_Y b H locs (0, 0) 22 [(0, .ref a), (1, .int key), (2, .int v)] [.int (nI j), .ref a] := by
    intro j locs hj S1
    refine yy_iload_n F d_S_bringKeyIn_22 (n := 23) rfl 1 rfl ?_
    refine yy_iload_n F d_S_bringKeyIn_23 (n := 24) rfl 2 rfl ?_
    refine yy_cv F S1 (c_S_bringIn (j := j) (x := key) (v := v) X hn ok (by rw [hj]; exact ym_pl_le _ _ _ _) h24) (yy_Bc F X.1 q_511 q_11) (yy_invV (nA := 3) (C := R_S) (bytes := b_S_bringIn) (maxL := 5) (retY := none) F X.1 q_630 q_509 q_510 q_511 ⟨by decide, by decide, by decide +kernel⟩ (yy_recv F.N X.2.1 (ci := 0) rfl hP.1) rfl d_S_bringKeyIn_24) d_S_bringKeyIn_24 (n := 27) rfl (by simp [Value.category]) ⟨by decide, by decide⟩ ⟨Nat.le_refl _, Nat.le_refl _⟩ ⟨rfl, rfl⟩ hP (fun Hw_3 locs_w_3 qw_3 Sw_3 => ?_)
    obtain ⟨Pw_3, kw_3⟩ := qw_3
    have kw_3 := hk0.tr kw_3
    rw [show ym_row kd rm n = rm from if_neg (fun q => hkz q.1), hj] at Pw_3
    exact mid _ _ Pw_3 kw_3 Sw_3
  refine yy_aload_n F d_S_bringKeyIn_0 (n := 1) rfl 0 rfl ?_
  refine yy_aload_n F d_S_bringKeyIn_1 (n := 2) rfl 0 rfl ?_
  refine yy_get F X.1 X.2.1 g_S_28_S hP.1 rfl d_S_bringKeyIn_2 (n := 5) rfl ?_
  refine yy_iconst (v := 4) F d_S_bringKeyIn_5 (n := 6) rfl rfl ?_
  refine yy_ic_ne (tgt := 18) F d_S_bringKeyIn_6 (n := 9) rfl (by decide) (fun h4 => ?_) (fun h4 => ?_)
  · refine yy_aload_n F d_S_bringKeyIn_18 (n := 19) rfl 0 rfl ?_
    refine yy_get F X.1 X.2.1 g_S_18_S hP.1 rfl d_S_bringKeyIn_19 (n := 22) rfl ?_
    exact bring n _ (if_neg h4).symm hS
  · refine yy_aload_n F d_S_bringKeyIn_9 (n := 10) rfl 0 rfl ?_
    refine yy_iload_n F d_S_bringKeyIn_10 (n := 11) rfl 1 rfl ?_
    refine yy_iconst (v := 0) F d_S_bringKeyIn_11 (n := 12) rfl rfl ?_
    refine yy_cri (w := (nI (ym_cnt (ym_bel nf key 0) n))) F hS (c_S_placesBefore (x := key) (e := 0) X hn) (yy_Bc F X.1 q_324 q_11) (yy_invV (nA := 2) (C := R_S) (bytes := b_S_placesBefore) (maxL := 5) (retY := (some .int)) F X.1 q_629 q_322 q_323 q_324 ⟨by decide, by decide, by decide +kernel⟩ (yy_recv F.N X.2.1 (ci := 0) rfl hP.1) rfl d_S_bringKeyIn_12) d_S_bringKeyIn_12 (n := 15) rfl (by simp [Value.category]) ⟨by decide, by decide⟩ ⟨Nat.le_refl _, Nat.le_refl _⟩ ⟨rfl, rfl⟩ hP rfl (fun _ hS_4 => ?_)
    refine yy_goto (tgt := 22) F d_S_bringKeyIn_15 (by decide) ?_
    exact bring _ _ (if_pos h4).symm hS_4
set_option maxRecDepth 100000 in
set_option maxHeartbeats 4000000 in
/-- a new key -/
theorem c_S_putKey_new {l : Launch} {z : State} {a0 : Array Value} {D : va_G} {ca : kca} (X : kcx l z a0 D ca) {a na va n : Nat} {kd rm ch : Int32} {nf vf : Nat → Int32} (hn : n ≤ 24) (ok : st_ok z a na va) {key v : Int32} (hf : ym_find nf key n = -1) (hkz : ¬ kd = 0) (h24 : n < 24) (hno : kd = 3 → n + 1 < 7) : yy_M l z y_S_putKey (.code y_S_putKey b_S_putKey 4 none) ({ frames := 3, cells := 0, slots := 0, locals := 66 }) [.ref a, .int key, .int v] (fun H => st_at D ca H a na va kd rm ch n nf vf) (yy_pv (fun H H1 => st_at D ca H1 a na va kd (ym_bkt kd rm (n + 1)) (ch + 1) (n + 1) (ym_ad nf (ym_pl kd nf key n) n key) (ym_ad vf (ym_pl kd nf key n) n v) ∧ kp [a, na, va] H H1)) := by
  refine yy_body (plainFor_of_name (by decide)) (Nat.le_of_ble_eq_true rfl) (fun b H F hS hP hH hnm => ?_)
  have hk0 : kp [a, na, va] H H := kp.rf
  refine yy_aload_n F d_S_putKey_0 (n := 1) rfl 0 rfl ?_
  refine yy_iload_n F d_S_putKey_1 (n := 2) rfl 1 rfl ?_
  refine yy_cri (w := (-1)) F hS (c_S_placeOf (key := key) X hn) (yy_Bc F X.1 q_619 q_11) (yy_invV (nA := 1) (C := R_S) (bytes := b_S_placeOf) (maxL := 3) (retY := (some .int)) F X.1 q_624 q_617 q_618 q_619 ⟨by decide, by decide, by decide +kernel⟩ (yy_recv F.N X.2.1 (ci := 0) rfl hP.1) rfl d_S_putKey_2) d_S_putKey_2 (n := 5) rfl (by simp [Value.category]) ⟨by decide, by decide⟩ ⟨Nat.le_refl _, Nat.le_refl _⟩ ⟨rfl, rfl⟩ hP hf (fun _ hS_1 => ?_)
  refine yy_istore_n (lv' := [(3, .int (-1)), (0, .ref a), (1, .int key), (2, .int v)]) F d_S_putKey_5 (n := 6) rfl (by decide) rfl ?_
  refine yy_iload_n F d_S_putKey_6 (n := 7) rfl 0 rfl ?_
  refine yy_iconst (v := (-1)) F d_S_putKey_7 (n := 8) rfl rfl ?_
  refine yy_ic_ne_f (tgt := 20) F d_S_putKey_8 (n := 11) rfl (by decide) rfl ?_
  refine yy_aload_n F d_S_putKey_11 (n := 12) rfl 1 rfl ?_
  refine yy_iload_n F d_S_putKey_12 (n := 13) rfl 2 rfl ?_
  refine yy_iload_n F d_S_putKey_13 (n := 14) rfl 3 rfl ?_
  refine yy_cv F hS_1 (c_S_bringKeyIn X hn ok hkz h24 hno) (yy_Bc F X.1 q_628 q_11) (yy_invV (nA := 2) (C := R_S) (bytes := b_S_bringKeyIn) (maxL := 3) (retY := none) F X.1 q_625 q_627 qs_S_bringKeyIn q_628 ⟨by decide, by decide, by decide +kernel⟩ (yy_recv F.N X.2.1 (ci := 0) rfl hP.1) rfl d_S_putKey_14) d_S_putKey_14 (n := 17) rfl (by simp [Value.category]) ⟨by decide, by decide⟩ ⟨Nat.le_refl _, Nat.le_refl _⟩ ⟨rfl, rfl⟩ hP (fun Hw_2 locs_w_2 qw_2 Sw_2 => ?_)
  obtain ⟨Pw_2, kw_2⟩ := qw_2
  have kw_2 := hk0.tr kw_2
  refine yy_goto (tgt := 31) F d_S_putKey_17 (by decide) ?_
  exact yy_vret F Sw_2 ⟨Nat.zero_le _, Nat.zero_le _⟩ rfl d_S_putKey_31 (⟨rfl, Pw_2, kw_2⟩)
set_option maxRecDepth 100000 in
set_option maxHeartbeats 4000000 in
/-- a new key of a RECENT that is one too many -/
theorem c_S_putKey_newt {l : Launch} {z : State} {a0 : Array Value} {D : va_G} {ca : kca} (X : kcx l z a0 D ca) {a na va n : Nat} {kd rm ch : Int32} {nf vf : Nat → Int32} (hn : n ≤ 24) (ok : st_ok z a na va) {key v : Int32} (hf : ym_find nf key n = -1) (hkz : ¬ kd = 0) (h24 : n < 24) (hkd : kd = 3) (h7 : 7 ≤ n + 1) : yy_M l z y_S_putKey (.code y_S_putKey b_S_putKey 4 none) ({ frames := 3, cells := 0, slots := 0, locals := 66 }) [.ref a, .int key, .int v] (fun H => st_at D ca H a na va kd rm ch n nf vf) (yy_pv (fun H H1 => st_at D ca H1 a na va kd (ym_bkt kd rm (n + 1)) (ch + 1 + 1) (n + 1 - 1) (ym_sh (ym_ad nf (ym_pl kd nf key n) n key) 0 (n + 1 - 1)) (ym_sh (ym_ad vf (ym_pl kd nf key n) n v) 0 (n + 1 - 1)) ∧ kp [a, na, va] H H1)) := by
  refine yy_body (plainFor_of_name (by decide)) (Nat.le_of_ble_eq_true rfl) (fun b H F hS hP hH hnm => ?_)
  have hk0 : kp [a, na, va] H H := kp.rf
  refine yy_aload_n F d_S_putKey_0 (n := 1) rfl 0 rfl ?_
  refine yy_iload_n F d_S_putKey_1 (n := 2) rfl 1 rfl ?_
  refine yy_cri (w := (-1)) F hS (c_S_placeOf (key := key) X hn) (yy_Bc F X.1 q_619 q_11) (yy_invV (nA := 1) (C := R_S) (bytes := b_S_placeOf) (maxL := 3) (retY := (some .int)) F X.1 q_624 q_617 q_618 q_619 ⟨by decide, by decide, by decide +kernel⟩ (yy_recv F.N X.2.1 (ci := 0) rfl hP.1) rfl d_S_putKey_2) d_S_putKey_2 (n := 5) rfl (by simp [Value.category]) ⟨by decide, by decide⟩ ⟨Nat.le_refl _, Nat.le_refl _⟩ ⟨rfl, rfl⟩ hP hf (fun _ hS_1 => ?_)
  refine yy_istore_n (lv' := [(3, .int (-1)), (0, .ref a), (1, .int key), (2, .int v)]) F d_S_putKey_5 (n := 6) rfl (by decide) rfl ?_
  refine yy_iload_n F d_S_putKey_6 (n := 7) rfl 0 rfl ?_
  refine yy_iconst (v := (-1)) F d_S_putKey_7 (n := 8) rfl rfl ?_
  refine yy_ic_ne_f (tgt := 20) F d_S_putKey_8 (n := 11) rfl (by decide) rfl ?_
  refine yy_aload_n F d_S_putKey_11 (n := 12) rfl 1 rfl ?_
  refine yy_iload_n F d_S_putKey_12 (n := 13) rfl 2 rfl ?_
  refine yy_iload_n F d_S_putKey_13 (n := 14) rfl 3 rfl ?_
  refine yy_cv F hS_1 (c_S_bringKeyIn_t X hn ok hkz h24 hkd h7) (yy_Bc F X.1 q_628 q_11) (yy_invV (nA := 2) (C := R_S) (bytes := b_S_bringKeyIn) (maxL := 3) (retY := none) F X.1 q_625 q_627 qs_S_bringKeyIn q_628 ⟨by decide, by decide, by decide +kernel⟩ (yy_recv F.N X.2.1 (ci := 0) rfl hP.1) rfl d_S_putKey_14) d_S_putKey_14 (n := 17) rfl (by simp [Value.category]) ⟨by decide, by decide⟩ ⟨Nat.le_refl _, Nat.le_refl _⟩ ⟨rfl, rfl⟩ hP (fun Hw_2 locs_w_2 qw_2 Sw_2 => ?_)
  obtain ⟨Pw_2, kw_2⟩ := qw_2
  have kw_2 := hk0.tr kw_2
  refine yy_goto (tgt := 31) F d_S_putKey_17 (by decide) ?_
  exact yy_vret F Sw_2 ⟨Nat.zero_le _, Nat.zero_le _⟩ rfl d_S_putKey_31 (⟨rfl, Pw_2, kw_2⟩)
set_option maxRecDepth 100000 in
set_option maxHeartbeats 4000000 in
/-- a key that is there, and stays where it is -/
theorem c_S_putKey_old {l : Launch} {z : State} {a0 : Array Value} {D : va_G} {ca : kca} (X : kcx l z a0 D ca) {a na va n : Nat} {kd rm ch : Int32} {nf vf : Nat → Int32} (hn : n ≤ 24) (ok : st_ok z a na va) {key v : Int32} {j : Nat} (hf : ym_find nf key n = nI j) (hj : j < n) (hl : kd = 3 → j + 1 = n) : yy_M l z y_S_putKey (.code y_S_putKey b_S_putKey 4 none) ({ frames := 3, cells := 0, slots := 0, locals := 66 }) [.ref a, .int key, .int v] (fun H => st_at D ca H a na va kd rm ch n nf vf) (yy_pv (fun H H1 => st_at D ca H1 a na va kd rm ch n nf (upd vf j v) ∧ kp [a, na, va] H H1)) := by
  refine yy_body (plainFor_of_name (by decide)) (Nat.le_of_ble_eq_true rfl) (fun b H F hS hP hH hnm => ?_)
  have hk0 : kp [a, na, va] H H := kp.rf
  refine yy_aload_n F d_S_putKey_0 (n := 1) rfl 0 rfl ?_
  refine yy_iload_n F d_S_putKey_1 (n := 2) rfl 1 rfl ?_
  refine yy_cri (w := (nI j)) F hS (c_S_placeOf (key := key) X hn) (yy_Bc F X.1 q_619 q_11) (yy_invV (nA := 1) (C := R_S) (bytes := b_S_placeOf) (maxL := 3) (retY := (some .int)) F X.1 q_624 q_617 q_618 q_619 ⟨by decide, by decide, by decide +kernel⟩ (yy_recv F.N X.2.1 (ci := 0) rfl hP.1) rfl d_S_putKey_2) d_S_putKey_2 (n := 5) rfl (by simp [Value.category]) ⟨by decide, by decide⟩ ⟨Nat.le_refl _, Nat.le_refl _⟩ ⟨rfl, rfl⟩ hP hf (fun _ hS_1 => ?_)
  refine yy_istore_n (lv' := [(3, .int (nI j)), (0, .ref a), (1, .int key), (2, .int v)]) F d_S_putKey_5 (n := 6) rfl (by decide) rfl ?_
  refine yy_iload_n F d_S_putKey_6 (n := 7) rfl 0 rfl ?_
  refine yy_iconst (v := (-1)) F d_S_putKey_7 (n := 8) rfl rfl ?_
  refine yy_ic_ne_t (tgt := 20) F d_S_putKey_8 (by decide) (ym_nm1 (by omega)) ?_
  refine yy_aload_n F d_S_putKey_20 (n := 21) rfl 1 rfl ?_
  refine yy_iload_n F d_S_putKey_21 (n := 22) rfl 0 rfl ?_
  refine yy_iload_n F d_S_putKey_22 (n := 23) rfl 3 rfl ?_
  refine yy_cv F hS_1 (c_S_setValue (j := j) (x := v) X hn ok (by omega)) (yy_Bc F X.1 q_635 q_11) (yy_invV (nA := 2) (C := R_S) (bytes := b_S_setValue) (maxL := 3) (retY := none) F X.1 q_632 q_633 q_634 q_635 ⟨by decide, by decide, by decide +kernel⟩ (yy_recv F.N X.2.1 (ci := 0) rfl hP.1) rfl d_S_putKey_23) d_S_putKey_23 (n := 26) rfl (by simp [Value.category]) ⟨by decide, by decide⟩ ⟨Nat.le_refl _, Nat.le_refl _⟩ ⟨rfl, rfl⟩ hP (fun Hw_2 locs_w_2 qw_2 Sw_2 => ?_)
  obtain ⟨Pw_2, kw_2⟩ := qw_2
  have kw_2 := hk0.tr kw_2
  refine yy_aload_n F d_S_putKey_26 (n := 27) rfl 1 rfl ?_
  refine yy_iload_n F d_S_putKey_27 (n := 28) rfl 2 rfl ?_
  refine yy_cv F Sw_2 (c_S_noteUse_no (key := key) X hn ok (fun h3 => Or.inr (by rw [hf, ym_sub1 (by omega)]; exact congrArg nI (by have := hl h3; omega)))) (yy_Bc F X.1 q_639 q_11) (yy_invV (nA := 1) (C := R_S) (bytes := b_S_noteUse) (maxL := 4) (retY := none) F X.1 q_636 q_637 q_638 q_639 ⟨by decide, by decide, by decide +kernel⟩ (yy_recv F.N X.2.1 (ci := 0) rfl Pw_2.1) rfl d_S_putKey_28) d_S_putKey_28 (n := 31) rfl (by simp [Value.category]) ⟨by decide, by decide⟩ ⟨Nat.le_refl _, Nat.le_refl _⟩ ⟨rfl, rfl⟩ Pw_2 (fun Hw_3 locs_w_3 qw_3 Sw_3 => ?_)
  obtain ⟨Pw_3, kw_3⟩ := qw_3
  have kw_3 := kw_2.tr kw_3
  exact yy_vret F Sw_3 ⟨Nat.zero_le _, Nat.zero_le _⟩ rfl d_S_putKey_31 (⟨rfl, Pw_3, kw_3⟩)
set_option maxRecDepth 100000 in
set_option maxHeartbeats 4000000 in
/-- a key of a RECENT that becomes the last -/
theorem c_S_putKey_mv {l : Launch} {z : State} {a0 : Array Value} {D : va_G} {ca : kca} (X : kcx l z a0 D ca) {a na va n : Nat} {kd rm ch : Int32} {nf vf : Nat → Int32} (hn : n ≤ 24) (ok : st_ok z a na va) {key v : Int32} {j : Nat} (hkd : kd = 3) (hf : ym_find nf key n = nI j) (hj : j + 1 < n) : yy_M l z y_S_putKey (.code y_S_putKey b_S_putKey 4 none) ({ frames := 3, cells := 0, slots := 0, locals := 66 }) [.ref a, .int key, .int v] (fun H => st_at D ca H a na va kd rm ch n nf vf) (yy_pv (fun H H1 => st_at D ca H1 a na va kd rm (ch + 1) n (upd (ym_sh nf j (n - 1)) (n - 1) key) (upd (ym_sh (upd vf j v) j (n - 1)) (n - 1) (upd vf j v j)) ∧ kp [a, na, va] H H1)) := by
  refine yy_body (plainFor_of_name (by decide)) (Nat.le_of_ble_eq_true rfl) (fun b H F hS hP hH hnm => ?_)
  have hk0 : kp [a, na, va] H H := kp.rf
  refine yy_aload_n F d_S_putKey_0 (n := 1) rfl 0 rfl ?_
  refine yy_iload_n F d_S_putKey_1 (n := 2) rfl 1 rfl ?_
  refine yy_cri (w := (nI j)) F hS (c_S_placeOf (key := key) X hn) (yy_Bc F X.1 q_619 q_11) (yy_invV (nA := 1) (C := R_S) (bytes := b_S_placeOf) (maxL := 3) (retY := (some .int)) F X.1 q_624 q_617 q_618 q_619 ⟨by decide, by decide, by decide +kernel⟩ (yy_recv F.N X.2.1 (ci := 0) rfl hP.1) rfl d_S_putKey_2) d_S_putKey_2 (n := 5) rfl (by simp [Value.category]) ⟨by decide, by decide⟩ ⟨Nat.le_refl _, Nat.le_refl _⟩ ⟨rfl, rfl⟩ hP hf (fun _ hS_1 => ?_)
  refine yy_istore_n (lv' := [(3, .int (nI j)), (0, .ref a), (1, .int key), (2, .int v)]) F d_S_putKey_5 (n := 6) rfl (by decide) rfl ?_
  refine yy_iload_n F d_S_putKey_6 (n := 7) rfl 0 rfl ?_
  refine yy_iconst (v := (-1)) F d_S_putKey_7 (n := 8) rfl rfl ?_
  refine yy_ic_ne_t (tgt := 20) F d_S_putKey_8 (by decide) (ym_nm1 (by omega)) ?_
  refine yy_aload_n F d_S_putKey_20 (n := 21) rfl 1 rfl ?_
  refine yy_iload_n F d_S_putKey_21 (n := 22) rfl 0 rfl ?_
  refine yy_iload_n F d_S_putKey_22 (n := 23) rfl 3 rfl ?_
  refine yy_cv F hS_1 (c_S_setValue (j := j) (x := v) X hn ok (by omega)) (yy_Bc F X.1 q_635 q_11) (yy_invV (nA := 2) (C := R_S) (bytes := b_S_setValue) (maxL := 3) (retY := none) F X.1 q_632 q_633 q_634 q_635 ⟨by decide, by decide, by decide +kernel⟩ (yy_recv F.N X.2.1 (ci := 0) rfl hP.1) rfl d_S_putKey_23) d_S_putKey_23 (n := 26) rfl (by simp [Value.category]) ⟨by decide, by decide⟩ ⟨Nat.le_refl _, Nat.le_refl _⟩ ⟨rfl, rfl⟩ hP (fun Hw_2 locs_w_2 qw_2 Sw_2 => ?_)
  obtain ⟨Pw_2, kw_2⟩ := qw_2
  have kw_2 := hk0.tr kw_2
  refine yy_aload_n F d_S_putKey_26 (n := 27) rfl 1 rfl ?_
  refine yy_iload_n F d_S_putKey_27 (n := 28) rfl 2 rfl ?_
  refine yy_cv F Sw_2 (c_S_noteUse (key := key) X hn ok hkd hf hj) (yy_Bc F X.1 q_639 q_11) (yy_invV (nA := 1) (C := R_S) (bytes := b_S_noteUse) (maxL := 4) (retY := none) F X.1 q_636 q_637 q_638 q_639 ⟨by decide, by decide, by decide +kernel⟩ (yy_recv F.N X.2.1 (ci := 0) rfl Pw_2.1) rfl d_S_putKey_28) d_S_putKey_28 (n := 31) rfl (by simp [Value.category]) ⟨by decide, by decide⟩ ⟨Nat.le_refl _, Nat.le_refl _⟩ ⟨rfl, rfl⟩ Pw_2 (fun Hw_3 locs_w_3 qw_3 Sw_3 => ?_)
  obtain ⟨Pw_3, kw_3⟩ := qw_3
  have kw_3 := kw_2.tr kw_3
  exact yy_vret F Sw_3 ⟨Nat.zero_le _, Nat.zero_le _⟩ rfl d_S_putKey_31 (⟨rfl, Pw_3, kw_3⟩)
end
section
/-! PART S6: numbers modulo, buckets, sorting -/
def ym_fm (x y : Int32) : Int32 := if x ^^^ y < 0 ∧ ¬ x - x / y * y = 0 then x - x / y * y + y else x - x / y * y
def ym_cb (x y how : Int32) : Bool := if how = 0 then decide (x < y) else if how = 1 then decide (y < x) else decide (ym_fm x 10 < ym_fm y 10)
def ym_mx (x y : Int32) : Int32 := if x < y then y else x
def ym_mn (x y : Int32) : Int32 := if y < x then y else x
/-- a key's bucket -/
def ym_bk (key rm : Int32) : Int32 := (key ^^^ (key.toUInt32 >>> ((16 : Int32).toUInt32 &&& Int32.toUInt32 31)).toInt32) &&& (rm - 1)
/-- one number moves to its place among those before it -/
def ym_i1 (x : Int32) (f0 : Nat) (how : Int32) : Nat → (Nat → Int32) → (Nat → Int32)
  | 0, g => upd g 0 x
  | p + 1, g => if f0 ≤ p ∧ ym_cb x (g p) how = true then ym_i1 x f0 how p (upd g (p + 1) (g p)) else upd g (p + 1) x
/-- d numbers from i on do so, one after the other -/
def ym_so (f0 : Nat) (how : Int32) : Nat → Nat → (Nat → Int32) → (Nat → Int32)
  | 0, _, g => g
  | d + 1, i, g => ym_so f0 how d (i + 1) (ym_i1 (g i) f0 how i g)
theorem ym_na {f : Nat → Int32} {i n : Nat} (h : i < n) (hn : n ≤ 24) : (if ym_inb (nI i) n then f (nI i).toNatClampNeg else 0) = f i := by
  rw [ym_inb_t (ym_in.of h (by omega)), nI_clamp (by omega)]
  rfl
set_option maxRecDepth 100000 in
set_option maxHeartbeats 4000000 in
theorem c_X_max {l : Launch} {z : State} {a0 : Array Value} {D : va_G} {ca : kca} (X : kcx l z a0 D ca) {x y : Int32} : yy_M l z y_X_max (.code y_X_max b_X_max 2 (some .int)) ({ frames := 0, cells := 0, slots := 0, locals := 0 }) [.int x, .int y] (fun _ => True) (yy_ri (ym_mx x y)) := by
  refine yy_body (by decide +kernel) (Nat.le_of_ble_eq_true rfl) (fun b H F hS hP hH hnm => ?_)
  refine yy_iload_n F d_X_max_0 (n := 1) rfl 0 rfl ?_
  refine yy_iload_n F d_X_max_1 (n := 2) rfl 1 rfl ?_
  refine yy_ic_lt (tgt := 9) F d_X_max_2 (n := 5) rfl (by decide) (fun h => ?_) (fun h => ?_)
  · refine yy_iload_n F d_X_max_9 (n := 10) rfl 1 rfl ?_
    exact yy_iret F hS ⟨Nat.zero_le _, Nat.zero_le _⟩ rfl d_X_max_10 (⟨_, rfl, (if_pos h).symm, rfl⟩)
  · refine yy_iload_n F d_X_max_5 (n := 6) rfl 0 rfl ?_
    refine yy_goto (tgt := 10) F d_X_max_6 (by decide) ?_
    exact yy_iret F hS ⟨Nat.zero_le _, Nat.zero_le _⟩ rfl d_X_max_10 (⟨_, rfl, (if_neg h).symm, rfl⟩)
set_option maxRecDepth 100000 in
set_option maxHeartbeats 4000000 in
theorem c_X_min {l : Launch} {z : State} {a0 : Array Value} {D : va_G} {ca : kca} (X : kcx l z a0 D ca) {x y : Int32} : yy_M l z y_X_min (.code y_X_min b_X_min 2 (some .int)) ({ frames := 0, cells := 0, slots := 0, locals := 0 }) [.int x, .int y] (fun _ => True) (yy_ri (ym_mn x y)) := by
  refine yy_body (by decide +kernel) (Nat.le_of_ble_eq_true rfl) (fun b H F hS hP hH hnm => ?_)
  refine yy_iload_n F d_X_min_0 (n := 1) rfl 0 rfl ?_
  refine yy_iload_n F d_X_min_1 (n := 2) rfl 1 rfl ?_
  refine yy_ic_gt (tgt := 9) F d_X_min_2 (n := 5) rfl (by decide) (fun h => ?_) (fun h => ?_)
  · refine yy_iload_n F d_X_min_9 (n := 10) rfl 1 rfl ?_
    exact yy_iret F hS ⟨Nat.zero_le _, Nat.zero_le _⟩ rfl d_X_min_10 (⟨_, rfl, (if_pos h).symm, rfl⟩)
  · refine yy_iload_n F d_X_min_5 (n := 6) rfl 0 rfl ?_
    refine yy_goto (tgt := 10) F d_X_min_6 (by decide) ?_
    exact yy_iret F hS ⟨Nat.zero_le _, Nat.zero_le _⟩ rfl d_X_min_10 (⟨_, rfl, (if_neg h).symm, rfl⟩)
set_option maxRecDepth 100000 in
set_option maxHeartbeats 4000000 in
theorem c_X_floorMod {l : Launch} {z : State} {a0 : Array Value} {D : va_G} {ca : kca} (X : kcx l z a0 D ca) {x y : Int32} (hy : ¬ y = 0) : yy_M l z y_X_floorMod (.code y_X_floorMod b_X_floorMod 3 (some .int)) ({ frames := 0, cells := 0, slots := 0, locals := 0 }) [.int x, .int y] (fun _ => True) (yy_ri (ym_fm x y)) := by
  refine yy_body (by decide +kernel) (Nat.le_of_ble_eq_true rfl) (fun b H F hS hP hH hnm => ?_)
  refine yy_iload_n F d_X_floorMod_0 (n := 1) rfl 0 rfl ?_
  refine yy_iload_n F d_X_floorMod_1 (n := 2) rfl 1 rfl ?_
  refine yy_irem F d_X_floorMod_2 (n := 3) rfl hy ?_
  refine yy_istore_n (lv' := [(2, .int (x - x / y * y)), (0, .int x), (1, .int y)]) F d_X_floorMod_3 (n := 4) rfl (by decide) rfl ?_
  refine yy_iload_n F d_X_floorMod_4 (n := 5) rfl 1 rfl ?_
  refine yy_iload_n F d_X_floorMod_5 (n := 6) rfl 2 rfl ?_
  refine yy_ixor F d_X_floorMod_6 (n := 7) rfl ?_
  refine yy_if_ge (tgt := 18) F d_X_floorMod_7 (n := 10) rfl (by decide) (fun h1 => ?_) (fun h1 => ?_)
  · refine yy_iload_n F d_X_floorMod_18 (n := 19) rfl 0 rfl ?_
    exact yy_iret F hS ⟨Nat.zero_le _, Nat.zero_le _⟩ rfl d_X_floorMod_19 (⟨_, rfl, (if_neg (fun q => absurd q.1 (Int32.not_lt.mpr h1))).symm, rfl⟩)
  · refine yy_iload_n F d_X_floorMod_10 (n := 11) rfl 0 rfl ?_
    refine yy_if_eq (tgt := 18) F d_X_floorMod_11 (n := 14) rfl (by decide) (fun h2 => ?_) (fun h2 => ?_)
    · refine yy_iload_n F d_X_floorMod_18 (n := 19) rfl 0 rfl ?_
      exact yy_iret F hS ⟨Nat.zero_le _, Nat.zero_le _⟩ rfl d_X_floorMod_19 (⟨_, rfl, (if_neg (fun q => q.2 h2)).symm, rfl⟩)
    · refine yy_iload_n F d_X_floorMod_14 (n := 15) rfl 0 rfl ?_
      refine yy_iload_n F d_X_floorMod_15 (n := 16) rfl 2 rfl ?_
      refine yy_iadd F d_X_floorMod_16 (n := 17) rfl ?_
      exact yy_iret F hS ⟨Nat.zero_le _, Nat.zero_le _⟩ rfl d_X_floorMod_17 (⟨_, rfl, (if_pos ⟨Int32.not_le.mp h1, h2⟩).symm, rfl⟩)
set_option maxRecDepth 100000 in
set_option maxHeartbeats 4000000 in
/-- the bucket of a key -/
theorem c_S_bucketOf {l : Launch} {z : State} {a0 : Array Value} {D : va_G} {ca : kca} (X : kcx l z a0 D ca) {a na va n : Nat} {kd rm ch : Int32} {nf vf : Nat → Int32} (hn : n ≤ 24) {key : Int32} : yy_M l z y_S_bucketOf (.code y_S_bucketOf b_S_bucketOf 2 (some .int)) ({ frames := 0, cells := 0, slots := 0, locals := 0 }) [.ref a, .int key] (fun H => st_at D ca H a na va kd rm ch n nf vf) (yy_ri (ym_bk key rm)) := by
  refine yy_body (plainFor_of_name (by decide)) (Nat.le_of_ble_eq_true rfl) (fun b H F hS hP hH hnm => ?_)
  refine yy_iload_n F d_S_bucketOf_0 (n := 1) rfl 1 rfl ?_
  refine yy_iload_n F d_S_bucketOf_1 (n := 2) rfl 1 rfl ?_
  refine yy_bipush (v := 16) F d_S_bucketOf_2 (n := 4) rfl rfl ?_
  refine yy_iushr F d_S_bucketOf_4 (n := 5) rfl rfl ?_
  refine yy_ixor F d_S_bucketOf_5 (n := 6) rfl ?_
  refine yy_aload_n F d_S_bucketOf_6 (n := 7) rfl 0 rfl ?_
  refine yy_get F X.1 X.2.1 g_S_22_S hP.1 rfl d_S_bucketOf_7 (n := 10) rfl ?_
  refine yy_iconst (v := 1) F d_S_bucketOf_10 (n := 11) rfl rfl ?_
  refine yy_isub F d_S_bucketOf_11 (n := 12) rfl ?_
  refine yy_iand F d_S_bucketOf_12 (n := 13) rfl ?_
  exact yy_iret F hS ⟨Nat.zero_le _, Nat.zero_le _⟩ rfl d_S_bucketOf_13 (⟨_, rfl, rfl, rfl⟩)
set_option maxRecDepth 100000 in
set_option maxHeartbeats 4000000 in
/-- how many keys lie in the bucket of one -/
theorem c_S_countInBucketOf {l : Launch} {z : State} {a0 : Array Value} {D : va_G} {ca : kca} (X : kcx l z a0 D ca) {a na va n : Nat} {kd rm ch : Int32} {nf vf : Nat → Int32} (hn : n ≤ 24) {key : Int32} : yy_M l z y_S_countInBucketOf (.code y_S_countInBucketOf b_S_countInBucketOf 4 (some .int)) ({ frames := 1, cells := 0, slots := 0, locals := 21 }) [.ref a, .int key] (fun H => st_at D ca H a na va kd rm ch n nf vf) (yy_ri (nI (ym_cnt (fun i => decide (ym_bk (nf i) rm = ym_bk key rm)) n))) := by
  refine yy_body (plainFor_of_name (by decide)) (Nat.le_of_ble_eq_true rfl) (fun b H F hS hP hH hnm => ?_)
  have loop : ∀ (d i : Nat) (locs : List Loc), i + d = n → yy_S z H locs → yy_Y b H locs (0, 0) 4 [(3, .int (nI i)), (2, .int (nI (ym_cnt (fun i => decide (ym_bk (nf i) rm = ym_bk key rm)) i))), (0, .ref a), (1, .int key)] [] := by
    intro d
    induction d with
    | zero =>
      intro i locs hi S1
      refine yy_iload_n F d_S_countInBucketOf_4 (n := 5) rfl 0 rfl ?_
      refine yy_aload_n F d_S_countInBucketOf_5 (n := 6) rfl 2 rfl ?_
      refine yy_get F X.1 X.2.1 g_S_18_S hP.1 rfl d_S_countInBucketOf_6 (n := 9) rfl ?_
      refine yy_ic_ge_t (tgt := 39) F d_S_countInBucketOf_9 (by decide) (nI_le (by omega) (by omega)) ?_
      refine yy_iload_n F d_S_countInBucketOf_39 (n := 40) rfl 1 rfl ?_
      exact yy_iret F S1 ⟨Nat.zero_le _, Nat.zero_le _⟩ rfl d_S_countInBucketOf_40 (⟨_, rfl, by rw [show i = n by omega], rfl⟩)
    | succ d ih =>
      intro i locs hi S1
      refine yy_iload_n F d_S_countInBucketOf_4 (n := 5) rfl 0 rfl ?_
      refine yy_aload_n F d_S_countInBucketOf_5 (n := 6) rfl 2 rfl ?_
      refine yy_get F X.1 X.2.1 g_S_18_S hP.1 rfl d_S_countInBucketOf_6 (n := 9) rfl ?_
      refine yy_ic_ge_f (tgt := 39) F d_S_countInBucketOf_9 (n := 12) rfl (by decide) (nI_ge (by omega) (by omega)) ?_
      refine yy_aload_n F d_S_countInBucketOf_12 (n := 13) rfl 2 rfl ?_
      refine yy_aload_n F d_S_countInBucketOf_13 (n := 14) rfl 2 rfl ?_
      refine yy_get F X.1 X.2.1 g_S_9_S hP.1 rfl d_S_countInBucketOf_14 (n := 17) rfl ?_
      refine yy_iload_n F d_S_countInBucketOf_17 (n := 18) rfl 0 rfl ?_
      refine sr_ald (i := i) F X hP.2.1 (by decide) (by omega) d_S_countInBucketOf_18 (n' := 19) rfl ?_
      refine yy_cri (w := (ym_bk (nf i) rm)) F S1 (c_S_bucketOf (key := nf i) X hn) (yy_Bc F X.1 q_719 q_11) (yy_invV (nA := 1) (C := R_S) (bytes := b_S_bucketOf) (maxL := 2) (retY := (some .int)) F X.1 q_716 q_718 qs_S_bucketOf q_719 ⟨by decide, by decide, by decide +kernel⟩ (yy_recv F.N X.2.1 (ci := 0) rfl hP.1) rfl d_S_countInBucketOf_19) d_S_countInBucketOf_19 (n := 22) rfl (by simp [Value.category]) ⟨by decide, by decide⟩ ⟨Nat.le_refl _, Nat.le_refl _⟩ ⟨rfl, rfl⟩ hP rfl (fun _ hS_1 => ?_)
      refine yy_aload_n F d_S_countInBucketOf_22 (n := 23) rfl 2 rfl ?_
      refine yy_iload_n F d_S_countInBucketOf_23 (n := 24) rfl 3 rfl ?_
      refine yy_cri (w := (ym_bk key rm)) F hS_1 (c_S_bucketOf (key := key) X hn) (yy_Bc F X.1 q_719 q_11) (yy_invV (nA := 1) (C := R_S) (bytes := b_S_bucketOf) (maxL := 2) (retY := (some .int)) F X.1 q_716 q_718 qs_S_bucketOf q_719 ⟨by decide, by decide, by decide +kernel⟩ (yy_recv F.N X.2.1 (ci := 0) rfl hP.1) rfl d_S_countInBucketOf_24) d_S_countInBucketOf_24 (n := 27) rfl (by simp [Value.category]) ⟨by decide, by decide⟩ ⟨Nat.le_refl _, Nat.le_refl _⟩ ⟨rfl, rfl⟩ hP rfl (fun _ hS_2 => ?_)
      have hs : ∀ c : Bool, decide (ym_bk (nf i) rm = ym_bk key rm) = c → ym_cnt (fun i => decide (ym_bk (nf i) rm = ym_bk key rm)) (i + 1) = ym_cnt (fun i => decide (ym_bk (nf i) rm = ym_bk key rm)) i + (if c then 1 else 0) := fun c h => by rw [← h]; rfl
      refine yy_ic_ne (tgt := 33) F d_S_countInBucketOf_27 (n := 30) rfl (by decide) (fun h1 => ?_) (fun h1 => ?_)
      · refine yy_iinc (v := nI (i + 1)) (lv' := [(3, .int (nI (i + 1))), (2, .int (nI (ym_cnt (fun i => decide (ym_bk (nf i) rm = ym_bk key rm)) i))), (0, .ref a), (1, .int key)]) F d_S_countInBucketOf_33 (n := 36) rfl 0 rfl (nI_1 _) (by decide) rfl ?_
        refine yy_goto (tgt := 4) F d_S_countInBucketOf_36 (by decide) ?_
        have h9 := ih (i + 1) _ (by omega) hS_2
        rw [hs false (decide_eq_false h1)] at h9
        exact yy_sub [0, 1, 2, 3] rfl h9
      · refine yy_iinc (v := nI ((ym_cnt (fun i => decide (ym_bk (nf i) rm = ym_bk key rm)) i) + 1)) (lv' := [(2, .int (nI ((ym_cnt (fun i => decide (ym_bk (nf i) rm = ym_bk key rm)) i) + 1))), (3, .int (nI i)), (0, .ref a), (1, .int key)]) F d_S_countInBucketOf_30 (n := 33) rfl 1 rfl (nI_1 _) (by decide) rfl ?_
        refine yy_iinc (v := nI (i + 1)) (lv' := [(3, .int (nI (i + 1))), (2, .int (nI ((ym_cnt (fun i => decide (ym_bk (nf i) rm = ym_bk key rm)) i) + 1))), (0, .ref a), (1, .int key)]) F d_S_countInBucketOf_33 (n := 36) rfl 1 rfl (nI_1 _) (by decide) rfl ?_
        refine yy_goto (tgt := 4) F d_S_countInBucketOf_36 (by decide) ?_
        have h9 := ih (i + 1) _ (by omega) hS_2
        rw [hs true (decide_eq_true h1)] at h9
        exact yy_sub [0, 1, 2, 3] rfl h9
  refine yy_iconst (v := 0) F d_S_countInBucketOf_0 (n := 1) rfl rfl ?_
  refine yy_istore_n (lv' := [(2, .int 0), (0, .ref a), (1, .int key)]) F d_S_countInBucketOf_1 (n := 2) rfl (by decide) rfl ?_
  refine yy_iconst (v := 0) F d_S_countInBucketOf_2 (n := 3) rfl rfl ?_
  refine yy_istore_n (lv' := [(3, .int 0), (2, .int 0), (0, .ref a), (1, .int key)]) F d_S_countInBucketOf_3 (n := 4) rfl (by decide) rfl ?_
  exact loop n 0 _ (by omega) hS
set_option maxRecDepth 100000 in
set_option maxHeartbeats 4000000 in
/-- whether one number comes before another -/
theorem c_S_comesBefore {l : Launch} {z : State} {a0 : Array Value} {D : va_G} {ca : kca} (X : kcx l z a0 D ca) {x y how : Int32} : yy_M l z y_S_comesBefore (.code y_S_comesBefore b_S_comesBefore 3 (some .boolean)) ({ frames := 1, cells := 0, slots := 0, locals := 22 }) [.int x, .int y, .int how] (fun _ => True) (yy_ri (ym_n (ym_cb x y how))) := by
  refine yy_body (plainFor_of_name (by decide)) (Nat.le_of_ble_eq_true rfl) (fun b H F hS hP hH hnm => ?_)
  refine yy_iload_n F d_S_comesBefore_0 (n := 1) rfl 2 rfl ?_
  refine yy_if_ne (tgt := 15) F d_S_comesBefore_1 (n := 4) rfl (by decide) (fun h0 => ?_) (fun h0 => ?_)
  · refine yy_iload_n F d_S_comesBefore_15 (n := 16) rfl 2 rfl ?_
    refine yy_iconst (v := 1) F d_S_comesBefore_16 (n := 17) rfl rfl ?_
    refine yy_ic_ne (tgt := 31) F d_S_comesBefore_17 (n := 20) rfl (by decide) (fun h1 => ?_) (fun h1 => ?_)
    · refine yy_iload_n F d_S_comesBefore_31 (n := 32) rfl 0 rfl ?_
      refine yy_bipush (v := 10) F d_S_comesBefore_32 (n := 34) rfl rfl ?_
      refine yy_cri (w := (ym_fm x 10)) F hS (c_X_floorMod (x := x) (y := 10) X (by decide)) (yy_Bc F X.1 q_568 q_14) (yy_invS (nA := 2) (bytes := b_X_floorMod) (maxL := 3) (retY := (some .int)) F X.1 q_566 q_567 q_14 q_568 ⟨by decide, by decide, by decide +kernel⟩ rfl d_S_comesBefore_34) d_S_comesBefore_34 (n := 37) rfl (by simp [Value.category]) ⟨by decide, by decide⟩ ⟨Nat.le_refl _, Nat.le_refl _⟩ ⟨rfl, rfl⟩ trivial rfl (fun _ hS_1 => ?_)
      refine yy_iload_n F d_S_comesBefore_37 (n := 38) rfl 1 rfl ?_
      refine yy_bipush (v := 10) F d_S_comesBefore_38 (n := 40) rfl rfl ?_
      refine yy_cri (w := (ym_fm y 10)) F hS_1 (c_X_floorMod (x := y) (y := 10) X (by decide)) (yy_Bc F X.1 q_568 q_14) (yy_invS (nA := 2) (bytes := b_X_floorMod) (maxL := 3) (retY := (some .int)) F X.1 q_566 q_567 q_14 q_568 ⟨by decide, by decide, by decide +kernel⟩ rfl d_S_comesBefore_40) d_S_comesBefore_40 (n := 43) rfl (by simp [Value.category]) ⟨by decide, by decide⟩ ⟨Nat.le_refl _, Nat.le_refl _⟩ ⟨rfl, rfl⟩ trivial rfl (fun _ hS_2 => ?_)
      refine yy_ic_ge (tgt := 50) F d_S_comesBefore_43 (n := 46) rfl (by decide) (fun h2 => ?_) (fun h2 => ?_)
      · refine yy_iconst (v := 0) F d_S_comesBefore_50 (n := 51) rfl rfl ?_
        exact yy_zret F hS_2 ⟨Nat.zero_le _, Nat.zero_le _⟩ rfl rfl d_S_comesBefore_51 (⟨_, rfl, (ym_nf (by unfold ym_cb; rw [if_neg h0, if_neg h1]; exact decide_eq_false (Int32.not_lt.mpr h2))).symm, rfl⟩)
      · refine yy_iconst (v := 1) F d_S_comesBefore_46 (n := 47) rfl rfl ?_
        refine yy_goto (tgt := 51) F d_S_comesBefore_47 (by decide) ?_
        exact yy_zret F hS_2 ⟨Nat.zero_le _, Nat.zero_le _⟩ rfl rfl d_S_comesBefore_51 (⟨_, rfl, (ym_nt (by unfold ym_cb; rw [if_neg h0, if_neg h1]; exact decide_eq_true (Int32.not_le.mp h2))).symm, rfl⟩)
    · refine yy_iload_n F d_S_comesBefore_20 (n := 21) rfl 0 rfl ?_
      refine yy_iload_n F d_S_comesBefore_21 (n := 22) rfl 1 rfl ?_
      refine yy_ic_le (tgt := 29) F d_S_comesBefore_22 (n := 25) rfl (by decide) (fun h2 => ?_) (fun h2 => ?_)
      · refine yy_iconst (v := 0) F d_S_comesBefore_29 (n := 30) rfl rfl ?_
        exact yy_zret F hS ⟨Nat.zero_le _, Nat.zero_le _⟩ rfl rfl d_S_comesBefore_30 (⟨_, rfl, (ym_nf (by unfold ym_cb; rw [if_neg h0, if_pos h1]; exact decide_eq_false (Int32.not_lt.mpr h2))).symm, rfl⟩)
      · refine yy_iconst (v := 1) F d_S_comesBefore_25 (n := 26) rfl rfl ?_
        refine yy_goto (tgt := 30) F d_S_comesBefore_26 (by decide) ?_
        exact yy_zret F hS ⟨Nat.zero_le _, Nat.zero_le _⟩ rfl rfl d_S_comesBefore_30 (⟨_, rfl, (ym_nt (by unfold ym_cb; rw [if_neg h0, if_pos h1]; exact decide_eq_true (Int32.not_le.mp h2))).symm, rfl⟩)
  · refine yy_iload_n F d_S_comesBefore_4 (n := 5) rfl 0 rfl ?_
    refine yy_iload_n F d_S_comesBefore_5 (n := 6) rfl 1 rfl ?_
    refine yy_ic_ge (tgt := 13) F d_S_comesBefore_6 (n := 9) rfl (by decide) (fun h2 => ?_) (fun h2 => ?_)
    · refine yy_iconst (v := 0) F d_S_comesBefore_13 (n := 14) rfl rfl ?_
      exact yy_zret F hS ⟨Nat.zero_le _, Nat.zero_le _⟩ rfl rfl d_S_comesBefore_14 (⟨_, rfl, (ym_nf (by unfold ym_cb; rw [if_pos h0]; exact decide_eq_false (Int32.not_lt.mpr h2))).symm, rfl⟩)
    · refine yy_iconst (v := 1) F d_S_comesBefore_9 (n := 10) rfl rfl ?_
      refine yy_goto (tgt := 14) F d_S_comesBefore_10 (by decide) ?_
      exact yy_zret F hS ⟨Nat.zero_le _, Nat.zero_le _⟩ rfl rfl d_S_comesBefore_14 (⟨_, rfl, (ym_nt (by unfold ym_cb; rw [if_pos h0]; exact decide_eq_true (Int32.not_le.mp h2))).symm, rfl⟩)
set_option maxRecDepth 100000 in
set_option maxHeartbeats 4000000 in
/-- sorts the places f0 .. t0 - 1 -/
theorem c_S_arrange {l : Launch} {z : State} {a0 : Array Value} {D : va_G} {ca : kca} (X : kcx l z a0 D ca) {a na va n : Nat} {kd rm ch : Int32} {nf vf : Nat → Int32} (hn : n ≤ 24) (ok : st_ok z a na va) {f0 t0 : Nat} {how : Int32} (hf : f0 ≤ 24) (ht : t0 ≤ n) : yy_M l z y_S_arrange (.code y_S_arrange b_S_arrange 7 none) ({ frames := 2, cells := 0, slots := 0, locals := 44 }) [.ref a, .int (nI f0), .int (nI t0), .int how] (fun H => st_at D ca H a na va kd rm ch n nf vf) (yy_pv (fun H H1 => st_at D ca H1 a na va kd rm (ch + 1) n (ym_so f0 how (t0 - (f0 + 1)) (f0 + 1) nf) vf ∧ kp [a, na, va] H H1)) := by
  refine yy_body (plainFor_of_name (by decide)) (Nat.le_of_ble_eq_true rfl) (fun b H F hS hP hH hnm => ?_)
  have hk0 : kp [a, na, va] H H := kp.rf
  have inner : ∀ (pl i : Nat) (x : Int32) (g : Nat → Int32) (H1 : Heap) (locs : List Loc), pl < n → st_at D ca H1 a na va kd rm ch n g vf → kp [a, na, va] H H1 → yy_S z H1 locs → (∀ (H2 : Heap) (locs2 : List Loc), st_at D ca H2 a na va kd rm ch n (ym_i1 x f0 how pl g) vf → kp [a, na, va] H H2 → yy_S z H2 locs2 → yy_Y b H2 locs2 (0, 0) 74 [(4, .int (nI i)), (0, .ref a), (1, .int (nI f0)), (2, .int (nI t0)), (3, .int how)] []) → yy_Y b H1 locs (0, 0) 23 [(6, .int (nI pl)), (5, .int x), (4, .int (nI i)), (0, .ref a), (1, .int (nI f0)), (2, .int (nI t0)), (3, .int how)] [] := by
    intro pl
    induction pl with
    | zero =>
      intro i x g H1 locs hp P1 k1 S1 cont
      refine yy_iload F d_S_arrange_23 (n := 25) rfl 0 rfl ?_
      refine yy_iload_n F d_S_arrange_25 (n := 26) rfl 4 rfl ?_
      refine yy_ic_le_t (tgt := 66) F d_S_arrange_26 (by decide) (nI_le (Nat.zero_le _) (by omega)) ?_
      refine yy_aload_n F d_S_arrange_66 (n := 67) rfl 3 rfl ?_
      refine yy_iload F d_S_arrange_67 (n := 69) rfl 0 rfl ?_
      refine yy_iload F d_S_arrange_69 (n := 71) rfl 1 rfl ?_
      refine yy_cv F S1 (c_S_setNumber (j := 0) (x := x) X hn ok (by omega)) (yy_Bc F X.1 q_480 q_11) (yy_invV (nA := 2) (C := R_S) (bytes := b_S_setNumber) (maxL := 3) (retY := none) F X.1 q_569 q_478 q_479 q_480 ⟨by decide, by decide, by decide +kernel⟩ (yy_recv F.N X.2.1 (ci := 0) rfl P1.1) rfl d_S_arrange_71) d_S_arrange_71 (n := 74) rfl (by simp [Value.category]) ⟨by decide, by decide⟩ ⟨Nat.le_refl _, Nat.le_refl _⟩ ⟨rfl, rfl⟩ P1 (fun Hw_1 locs_w_1 qw_1 Sw_1 => ?_)
      obtain ⟨Pw_1, kw_1⟩ := qw_1
      have kw_1 := k1.tr kw_1
      exact yy_sub [2, 3, 4, 5, 6] rfl (cont _ _ (by skip; exact Pw_1) kw_1 Sw_1)
    | succ p ih =>
      intro i x g H1 locs hp P1 k1 S1 cont
      refine yy_iload F d_S_arrange_23 (n := 25) rfl 0 rfl ?_
      refine yy_iload_n F d_S_arrange_25 (n := 26) rfl 4 rfl ?_
      refine yy_ic_le (tgt := 66) F d_S_arrange_26 (n := 29) rfl (by decide) (fun h1 => ?_) (fun h1 => ?_)
      · refine yy_aload_n F d_S_arrange_66 (n := 67) rfl 3 rfl ?_
        refine yy_iload F d_S_arrange_67 (n := 69) rfl 0 rfl ?_
        refine yy_iload F d_S_arrange_69 (n := 71) rfl 1 rfl ?_
        refine yy_cv F S1 (c_S_setNumber (j := p + 1) (x := x) X hn ok (by omega)) (yy_Bc F X.1 q_480 q_11) (yy_invV (nA := 2) (C := R_S) (bytes := b_S_setNumber) (maxL := 3) (retY := none) F X.1 q_569 q_478 q_479 q_480 ⟨by decide, by decide, by decide +kernel⟩ (yy_recv F.N X.2.1 (ci := 0) rfl P1.1) rfl d_S_arrange_71) d_S_arrange_71 (n := 74) rfl (by simp [Value.category]) ⟨by decide, by decide⟩ ⟨Nat.le_refl _, Nat.le_refl _⟩ ⟨rfl, rfl⟩ P1 (fun Hw_2 locs_w_2 qw_2 Sw_2 => ?_)
        obtain ⟨Pw_2, kw_2⟩ := qw_2
        have kw_2 := k1.tr kw_2
        exact yy_sub [2, 3, 4, 5, 6] rfl (cont _ _ (by rw [show ym_i1 x f0 how (p + 1) g = upd g (p + 1) x from if_neg (fun q => by have := (nI_leI (by omega) (by omega)).mp h1; omega)]; exact Pw_2) kw_2 Sw_2)
      · refine yy_iload F d_S_arrange_29 (n := 31) rfl 1 rfl ?_
        refine yy_aload_n F d_S_arrange_31 (n := 32) rfl 3 rfl ?_
        refine yy_iload F d_S_arrange_32 (n := 34) rfl 0 rfl ?_
        refine yy_iconst (v := 1) F d_S_arrange_34 (n := 35) rfl rfl ?_
        refine yy_isub F d_S_arrange_35 (n := 36) rfl ?_
        refine yy_tope (y := (nI p)) (nI_pred _) ?_
        refine yy_cri (w := (g p)) F S1 (c_S_numberAt (p := nI p) X hn) (yy_Bc F X.1 q_457 q_11) (yy_invV (nA := 1) (C := R_S) (bytes := b_S_numberAt) (maxL := 2) (retY := (some .int)) F X.1 q_562 q_455 q_456 q_457 ⟨by decide, by decide, by decide +kernel⟩ (yy_recv F.N X.2.1 (ci := 0) rfl P1.1) rfl d_S_arrange_36) d_S_arrange_36 (n := 39) rfl (by simp [Value.category]) ⟨by decide, by decide⟩ ⟨Nat.le_refl _, Nat.le_refl _⟩ ⟨rfl, rfl⟩ P1 (ym_na (by omega) hn) (fun _ hS_3 => ?_)
        refine yy_iload_n F d_S_arrange_39 (n := 40) rfl 6 rfl ?_
        refine yy_cri (w := (ym_n (ym_cb x (g p) how))) F hS_3 (c_S_comesBefore (x := x) (y := g p) (how := how) X) (yy_Bc F X.1 q_565 q_11) (yy_invS (nA := 3) (bytes := b_S_comesBefore) (maxL := 3) (retY := (some .boolean)) F X.1 q_563 q_564 q_11 q_565 ⟨by decide, by decide, by decide +kernel⟩ rfl d_S_arrange_40) d_S_arrange_40 (n := 43) rfl (by simp [Value.category]) ⟨by decide, by decide⟩ ⟨Nat.le_refl _, Nat.le_refl _⟩ ⟨rfl, rfl⟩ trivial rfl (fun _ hS_4 => ?_)
        have hfp : f0 ≤ p := by have := mt (nI_leI (show p + 1 < 2 ^ 31 by omega) (show f0 < 2 ^ 31 by omega)).mpr h1; omega
        by_cases hc : ym_cb x (g p) how = true
        · refine yy_tope (y := 1) (ym_nt hc) ?_
          refine yy_if_eq_f (tgt := 66) F d_S_arrange_43 (n := 46) rfl (by decide) (by decide) ?_
          refine yy_aload_n F d_S_arrange_46 (n := 47) rfl 3 rfl ?_
          refine yy_iload F d_S_arrange_47 (n := 49) rfl 0 rfl ?_
          refine yy_aload_n F d_S_arrange_49 (n := 50) rfl 3 rfl ?_
          refine yy_iload F d_S_arrange_50 (n := 52) rfl 0 rfl ?_
          refine yy_iconst (v := 1) F d_S_arrange_52 (n := 53) rfl rfl ?_
          refine yy_isub F d_S_arrange_53 (n := 54) rfl ?_
          refine yy_tope (y := (nI p)) (nI_pred _) ?_
          refine yy_cri (w := (g p)) F hS_4 (c_S_numberAt (p := nI p) X hn) (yy_Bc F X.1 q_457 q_11) (yy_invV (nA := 1) (C := R_S) (bytes := b_S_numberAt) (maxL := 2) (retY := (some .int)) F X.1 q_562 q_455 q_456 q_457 ⟨by decide, by decide, by decide +kernel⟩ (yy_recv F.N X.2.1 (ci := 0) rfl P1.1) rfl d_S_arrange_54) d_S_arrange_54 (n := 57) rfl (by simp [Value.category]) ⟨by decide, by decide⟩ ⟨Nat.le_refl _, Nat.le_refl _⟩ ⟨rfl, rfl⟩ P1 (ym_na (by omega) hn) (fun _ hS_5 => ?_)
          refine yy_cv F hS_5 (c_S_setNumber (j := p + 1) (x := g p) X hn ok (by omega)) (yy_Bc F X.1 q_480 q_11) (yy_invV (nA := 2) (C := R_S) (bytes := b_S_setNumber) (maxL := 3) (retY := none) F X.1 q_569 q_478 q_479 q_480 ⟨by decide, by decide, by decide +kernel⟩ (yy_recv F.N X.2.1 (ci := 0) rfl P1.1) rfl d_S_arrange_57) d_S_arrange_57 (n := 60) rfl (by simp [Value.category]) ⟨by decide, by decide⟩ ⟨Nat.le_refl _, Nat.le_refl _⟩ ⟨rfl, rfl⟩ P1 (fun Hw_6 locs_w_6 qw_6 Sw_6 => ?_)
          obtain ⟨Pw_6, kw_6⟩ := qw_6
          have kw_6 := k1.tr kw_6
          refine yy_iinc (v := nI p) (lv' := [(6, .int (nI p)), (5, .int x), (4, .int (nI i)), (0, .ref a), (1, .int (nI f0)), (2, .int (nI t0)), (3, .int how)]) F d_S_arrange_60 (n := 63) rfl 0 rfl (pk_m1 _) (by decide) rfl ?_
          refine yy_goto (tgt := 23) F d_S_arrange_63 (by decide) ?_
          refine yy_sub [0, 1, 2, 3, 4, 5, 6] rfl (ih i x _ _ _ (by omega) Pw_6 kw_6 Sw_6 (fun H2 locs2 P2 k2 S2 => cont H2 locs2 ?_ k2 S2))
          rw [show ym_i1 x f0 how (p + 1) g = ym_i1 x f0 how p (upd g (p + 1) (g p)) from if_pos ⟨hfp, hc⟩]
          exact P2
        · refine yy_tope (y := 0) (ym_nf (by simpa using hc)) ?_
          refine yy_if_eq_t (tgt := 66) F d_S_arrange_43 (by decide) rfl ?_
          refine yy_aload_n F d_S_arrange_66 (n := 67) rfl 3 rfl ?_
          refine yy_iload F d_S_arrange_67 (n := 69) rfl 0 rfl ?_
          refine yy_iload F d_S_arrange_69 (n := 71) rfl 1 rfl ?_
          refine yy_cv F hS_4 (c_S_setNumber (j := p + 1) (x := x) X hn ok (by omega)) (yy_Bc F X.1 q_480 q_11) (yy_invV (nA := 2) (C := R_S) (bytes := b_S_setNumber) (maxL := 3) (retY := none) F X.1 q_569 q_478 q_479 q_480 ⟨by decide, by decide, by decide +kernel⟩ (yy_recv F.N X.2.1 (ci := 0) rfl P1.1) rfl d_S_arrange_71) d_S_arrange_71 (n := 74) rfl (by simp [Value.category]) ⟨by decide, by decide⟩ ⟨Nat.le_refl _, Nat.le_refl _⟩ ⟨rfl, rfl⟩ P1 (fun Hw_7 locs_w_7 qw_7 Sw_7 => ?_)
          obtain ⟨Pw_7, kw_7⟩ := qw_7
          have kw_7 := k1.tr kw_7
          exact yy_sub [2, 3, 4, 5, 6] rfl (cont _ _ (by rw [show ym_i1 x f0 how (p + 1) g = upd g (p + 1) x from if_neg (fun q => hc q.2)]; exact Pw_7) kw_7 Sw_7)
  have outer : ∀ (d i : Nat) (g : Nat → Int32) (H1 : Heap) (locs : List Loc), t0 - i = d → i ≤ 25 → ym_so f0 how d i g = ym_so f0 how (t0 - (f0 + 1)) (f0 + 1) nf → st_at D ca H1 a na va kd rm ch n g vf → kp [a, na, va] H H1 → yy_S z H1 locs → yy_Y b H1 locs (0, 0) 5 [(4, .int (nI i)), (0, .ref a), (1, .int (nI f0)), (2, .int (nI t0)), (3, .int how)] [] := by
    intro d
    induction d with
    | zero =>
      intro i g H1 locs hd hi he P1 k1 S1
      refine yy_iload F d_S_arrange_5 (n := 7) rfl 0 rfl ?_
      refine yy_iload_n F d_S_arrange_7 (n := 8) rfl 3 rfl ?_
      refine yy_ic_ge_t (tgt := 80) F d_S_arrange_8 (by decide) (nI_le (by omega) (by omega)) ?_
      refine yy_aload_n F d_S_arrange_80 (n := 81) rfl 1 rfl ?_
      refine yy_dup F d_S_arrange_81 (n := 82) rfl rfl ?_
      refine yy_get F X.1 X.2.1 g_S_25_S P1.1 rfl d_S_arrange_82 (n := 85) rfl ?_
      refine yy_iconst (v := 1) F d_S_arrange_85 (n := 86) rfl rfl ?_
      refine yy_iadd F d_S_arrange_86 (n := 87) rfl ?_
      refine sr_chg F X g_S_25_S S1 ok P1 k1 d_S_arrange_87 (n' := 90) rfl (fun Hw_8 locs_w_8 Pw_8 kw_8 Sw_8 => ?_)
      exact yy_vret F Sw_8 ⟨Nat.zero_le _, Nat.zero_le _⟩ rfl d_S_arrange_90 (⟨rfl, by rw [← he]; exact Pw_8, kw_8⟩)
    | succ d ih =>
      intro i g H1 locs hd hi he P1 k1 S1
      refine yy_iload F d_S_arrange_5 (n := 7) rfl 0 rfl ?_
      refine yy_iload_n F d_S_arrange_7 (n := 8) rfl 3 rfl ?_
      refine yy_ic_ge_f (tgt := 80) F d_S_arrange_8 (n := 11) rfl (by decide) (nI_ge (by omega) (by omega)) ?_
      refine yy_aload_n F d_S_arrange_11 (n := 12) rfl 1 rfl ?_
      refine yy_iload F d_S_arrange_12 (n := 14) rfl 0 rfl ?_
      refine yy_cri (w := (g i)) F S1 (c_S_numberAt (p := nI i) X hn) (yy_Bc F X.1 q_457 q_11) (yy_invV (nA := 1) (C := R_S) (bytes := b_S_numberAt) (maxL := 2) (retY := (some .int)) F X.1 q_562 q_455 q_456 q_457 ⟨by decide, by decide, by decide +kernel⟩ (yy_recv F.N X.2.1 (ci := 0) rfl P1.1) rfl d_S_arrange_14) d_S_arrange_14 (n := 17) rfl (by simp [Value.category]) ⟨by decide, by decide⟩ ⟨Nat.le_refl _, Nat.le_refl _⟩ ⟨rfl, rfl⟩ P1 (ym_na (by omega) hn) (fun _ hS_9 => ?_)
      refine yy_istore (lv' := [(5, .int (g i)), (4, .int (nI i)), (0, .ref a), (1, .int (nI f0)), (2, .int (nI t0)), (3, .int how)]) F d_S_arrange_17 (n := 19) rfl (by decide) rfl ?_
      refine yy_iload F d_S_arrange_19 (n := 21) rfl 1 rfl ?_
      refine yy_istore (lv' := [(6, .int (nI i)), (5, .int (g i)), (4, .int (nI i)), (0, .ref a), (1, .int (nI f0)), (2, .int (nI t0)), (3, .int how)]) F d_S_arrange_21 (n := 23) rfl (by decide) rfl ?_
      refine yy_sub [0, 1, 2, 3, 4, 5, 6] rfl (inner i i (g i) g H1 _ (by omega) P1 k1 hS_9 (fun H2 locs2 P2 k2 S2 => ?_))
      refine yy_iinc (v := nI (i + 1)) (lv' := [(4, .int (nI (i + 1))), (0, .ref a), (1, .int (nI f0)), (2, .int (nI t0)), (3, .int how)]) F d_S_arrange_74 (n := 77) rfl 0 rfl (nI_1 _) (by decide) rfl ?_
      refine yy_goto (tgt := 5) F d_S_arrange_77 (by decide) ?_
      exact yy_sub [0, 1, 2, 3, 4] rfl (ih (i + 1) _ H2 locs2 (by omega) (by omega) he P2 k2 S2)
  refine yy_iload_n F d_S_arrange_0 (n := 1) rfl 1 rfl ?_
  refine yy_iconst (v := 1) F d_S_arrange_1 (n := 2) rfl rfl ?_
  refine yy_iadd F d_S_arrange_2 (n := 3) rfl ?_
  refine yy_tope (y := (nI (f0 + 1))) (nI_1 _) ?_
  refine yy_istore (lv' := [(4, .int (nI (f0 + 1))), (0, .ref a), (1, .int (nI f0)), (2, .int (nI t0)), (3, .int how)]) F d_S_arrange_3 (n := 5) rfl (by decide) rfl ?_
  exact outer _ (f0 + 1) nf H _ rfl (by omega) rfl hP hk0 hS
end
section
/-! PART D0: the words of a throw, at every later state -/
theorem yy_lstat {z s : State} {a0 args : Array Value} (hN : yy_N z s) {C n d : String} (h : (Cond.laysStatic C n d).before a0 z = true) : (Cond.laysStatic C n d).before args s = true := by
  have h9 : (Cond.laysStatic C n d).holds a0 (z.setVm s.vm) none (z.setVm s.vm) [] = true := by
    have e := Cond.value_setVm (args := a0) (o := none) hN.1.alike (Cond.laysStatic C n d) [] rfl
    simp only [Cond.holds]
    rw [e]
    exact h
  obtain ⟨c, k, i, f, a, cell, h1, h2, h3, h4, h5, h6, h7, h8, h9⟩ := Cond.laysStatic_spec h9
  have h5' : z.heap[a]? = some cell := h5
  show (Cond.laysStatic C n d).holds args s none s [] = true
  exact Cond.laysStatic_of h1 h2 h3 h4 ((hN.2.2 a (Array.getElem?_eq_some_iff.mp h5').1).trans h5') h6 h7 h8 h9
theorem yy_face {z s : State} {a0 args : Array Value} (hN : yy_N z s) {w : Cond} (hw : w.faceAtom = true) (ho : w.onTables = true) (h : w.before a0 z = true) : w.before args s = true :=
  va_tabs (u := z.setVm s.vm) ho rfl (Cond.faceAtom_setVm (args := a0) hN.1.alike w hw h)
theorem yy_sref {z s : State} {a0 args : Array Value} (hN : yy_N z s) {C n d : String} (hl : (Cond.laysStatic C n d).before a0 z = true) (hi : (Cond.initialized C).before a0 z = true) (h : (Cond.isRef (.static C n d)).before a0 z = true) : (Cond.isRef (.static C n d)).before args s = true := by
  have h1 : va_Zq C n d (fun q => z.heap.size ≤ q) z z.heap := va_Zqof hl hi h (fun a ha => Nat.not_le.mpr ha)
  have h2 : va_Zq C n d (fun q => z.heap.size ≤ q) s s.heap := va_Zq.moved hN.1.alike (va_Zq.kept h1 (fun a ha _ => hN.2.2 a ha))
  have go : ∀ v : Value, v.isRef = true → va_Z C n d v (fun q => z.heap.size ≤ q) s s.heap → (Cond.isRef (.static C n d)).before args s = true := by
    intro v hv hz
    obtain ⟨cf, kf, fi, f, a, cell, g1, g2, g3, g4, g5, g6, g7, -⟩ := hz
    have he : (Term.static C n d).eval args s none [] s = some v := by
      simp [Term.eval, State.fieldNamed?, g1, g2, g4, g5, g6, g7]
    simp only [Cond.before, Cond.holds, Cond.value, he]
    cases v <;> simp_all [Value.isRef]
  rcases h2 with h3 | ⟨t, h3⟩
  · exact go _ rfl h3
  · exact go _ rfl h3
/-- a word that stays true -/
def yy_okw (w : Cond) : Bool := goodWord w || (w.faceAtom && w.onTables) || decide (w = .isRef (.static Bundle.tN "UNASSIGNED_STACK" Bundle.steD)) || decide (w = .isRef (.static Bundle.tN "SUPPRESSED_SENTINEL" Bundle.listD)) || decide (w = .laysStatic Bundle.tN "UNASSIGNED_STACK" Bundle.steD) || decide (w = .laysStatic Bundle.tN "SUPPRESSED_SENTINEL" Bundle.listD)
theorem yy_hat {l : Launch} {z s : State} {a0 args : Array Value} {D : va_G} {ca : kca} (X : kcx l z a0 D ca) (hN : yy_N z s) {L : List Cond} (h : ∀ w ∈ L, yy_okw w = true ∧ (w ∈ lw_tbl ∨ w = .isRef (.static Bundle.tN "UNASSIGNED_STACK" Bundle.steD) ∨ w = .isRef (.static Bundle.tN "SUPPRESSED_SENTINEL" Bundle.listD))) : ∀ w ∈ L, w.before args s = true := by
  intro w hw
  have hf := flat_of_before _ X.2.2.1
  have r1 : (Cond.isRef (.static Bundle.tN "UNASSIGNED_STACK" Bundle.steD)).before a0 z = true := hf _ (by decide +kernel)
  have r2 : (Cond.isRef (.static Bundle.tN "SUPPRESSED_SENTINEL" Bundle.listD)).before a0 z = true := hf _ (by decide +kernel)
  have l1 : (Cond.laysStatic Bundle.tN "UNASSIGNED_STACK" Bundle.steD).before a0 z = true := X.1 _ (by decide +kernel)
  have l2 : (Cond.laysStatic Bundle.tN "SUPPRESSED_SENTINEL" Bundle.listD).before a0 z = true := X.1 _ (by decide +kernel)
  have i1 : (Cond.initialized Bundle.tN).before a0 z = true := X.1 _ (by decide +kernel)
  obtain ⟨h1, h2⟩ := h w hw
  have hz : w.before a0 z = true := by
    rcases h2 with h2 | h2 | h2
    · exact X.1 w h2
    · rw [h2]; exact r1
    · rw [h2]; exact r2
  simp only [yy_okw, Bool.or_eq_true, Bool.and_eq_true, decide_eq_true_eq] at h1
  rcases h1 with ((((h1 | h1) | h1) | h1) | h1) | h1
  · exact word_at hN.1 (good_of_word h1) hz
  · exact yy_face hN h1.1 h1.2 hz
  · rw [h1]; exact yy_sref hN l1 i1 r1
  · rw [h1]; exact yy_sref hN l2 i1 r2
  · rw [h1]; exact yy_lstat hN l1
  · rw [h1]; exact yy_lstat hN l2
end
section
/-! PART D1: calls that throw; texts of constants; a throw by a wide index -/
def yy_tx (E : String) : yy_R → Heap → Heap → Prop := fun r H H1 => r = .inr E ∧ yy_ext H H1
theorem yy_str {l : Launch} {z : State} {a0 : Array Value} {D : va_G} {ca : kca} (X : kcx l z a0 D ca) {own tx : String} {k : Nat} (hm : Cond.stringRef own k tx ∈ lw_tbl) (he : (Cond.exactly (.string own k) "java/lang/String").before a0 z = true) : ∃ sa : Nat, vk_R own k tx sa z := by
  obtain ⟨a2, c, cA, kA, q1, -⟩ := Cond.exactly_spec (args := a0) (first := z) (o := none) (s := z) (idx := []) (t := .string own k) (cls := "java/lang/String") he
  exact ⟨a2, vk_R.of (X.1 _ hm) q1⟩
section YD
variable {l : Launch} {z : State} {b : yy_T} {rm : Room} {cc : ByteArray} {nL : Nat} {own : String} {ret : Option FieldType} {hh : List (Nat × Nat × Nat × Nat)} {Post : yy_R → Heap → Prop}
variable {H : Heap} {locs : List Loc} {k : Nat × Nat} {pc n : Nat} {lv : List (Nat × Value)} {st st0 rest : List Value}
variable {y : MethodName} {cd : Cond} {rmY : Room} {av : List Value} {Pre : Heap → Prop} {maxL : Nat} {E : String}
theorem yy_ct (F : yy_A l z b rm cc nL own ret hh Post) (hS : yy_S z H locs) (hM : yy_M l z y cd rmY av Pre (yy_tx E)) (hB : yy_B (yy_s b) y cd maxL) (inv : yy_PB b H locs k y av pc st0 rest) {ig : Instr} (hdg : decode cc pc = .ok (ig, 3)) (hW8 : (rest.map fun v => v.category).sum ≤ 8)
    (hR : rmY.frames + 1 ≤ rm.frames ∧ 8 + (maxL + 11) + rmY.locals ≤ rm.locals) (hf : k.1 + rmY.cells ≤ rm.cells ∧ k.2 + rmY.slots ≤ rm.slots) (hP : Pre H)
    (kt : ∀ (q : Addr) (ce : Cell) (H1 : Heap) (locs1 : List Loc), yy_ext H H1 → yy_S z H1 locs1 → H1[q]? = some ce → ce.vm = .none → (yy_s b).vm.findClass E = some ce.cls → yy_V b H1 locs1 (k.1 + rmY.cells, k.2 + rmY.slots) pc lv rest q) :
    yy_Y b H locs k pc lv st0 :=
  yy_call F hS hM hB inv hdg rfl hW8 hR hf hP (fun v H1 locs1 h1 h2 => by
    obtain ⟨h, -⟩ := h1
    cases h) (fun E' q ce H1 locs1 h1 h2 h3 h4 h5 => by
    obtain ⟨h, hx⟩ := h1
    cases h
    exact kt q ce H1 locs1 hx h2 h3 h4 h5)
/-- .. and what it throws goes on to the caller -/
theorem yy_ctp (F : yy_A l z b rm cc nL own ret [] Post) (hS : yy_S z H locs) (hM : yy_M l z y cd rmY av Pre (yy_tx E)) (hB : yy_B (yy_s b) y cd maxL) (inv : yy_PB b H locs k y av pc st0 rest) {ig : Instr} (hdg : decode cc pc = .ok (ig, 3)) (hW8 : (rest.map fun v => v.category).sum ≤ 8)
    (hR : rmY.frames + 1 ≤ rm.frames ∧ 8 + (maxL + 11) + rmY.locals ≤ rm.locals) (hf : k.1 + rmY.cells ≤ rm.cells ∧ k.2 + rmY.slots ≤ rm.slots) (hP : Pre H) (hp : ∀ H1 : Heap, yy_ext H H1 → Post (.inr E) H1) : yy_Y b H locs k pc lv st0 :=
  yy_ct F hS hM hB inv hdg hW8 hR hf hP (fun q ce H1 locs1 hx h2 h3 h4 h5 => yy_out F h2 hf h3 h4 h5 (hp H1 hx))
theorem yy_throwSW {Ts : List Cond} {a0 : Array Value} (F : yy_A l z b rm cc nL own ret [] Post) (hC : ∀ w ∈ Ts, w.before a0 z = true) (hlt : l.stackTraces = false) {cls text : String} {names : List String} {ik is ic sa : Nat} (hcls : Bundle.fit cls = true) (hnames : ∀ n ∈ names, Bundle.fit n = true)
    (h1 : Cond.classLink own ik cls ∈ Ts) (h2 : Cond.initialized cls ∈ Ts) (hstr : vk_R own is text sa z) (hat : ∀ w ∈ Bundle.ownAtoms own ic cls names, w.before (yy_a b) (yy_s b) = true) (hH : (yy_s b).heap = H)
    (hR : names.length + 3 < rm.frames ∧ (st.map fun v => v.category).sum + (13 * (names.length + 1) + 43) ≤ rm.locals) (hk : k.1 + 1 ≤ rm.cells ∧ k.2 + 6 ≤ rm.slots)
    (d0 : decode cc pc = .ok (.new ik, 3)) (d3 : decode cc (pc + 3) = .ok (.dup, 1)) (d4 : decode cc (pc + 4) = .ok (.ldc_w is, 3)) (d6 : decode cc (pc + 7) = .ok (.invokespecial ic, 3)) (d9 : decode cc (pc + 10) = .ok (.athrow, 1))
    (hp : ∀ H1 : Heap, yy_ext H H1 → Post (.inr cls) H1) : yy_Y b H [] k pc lv st := by
  intro ls hl T hT X
  have htr : (yy_e b).platform.stackTraces = false := (show (yy_e b).platform.stackTraces = (yy_l b).stackTraces by rw [X.admits.platform]).trans (by rw [F.ll]; exact hlt)
  have hins : (Cond.instantiable cls 6).before (yy_a b) (yy_s b) = true := hat _ (by simp [Bundle.ownAtoms])
  obtain ⟨vm₁, cX, kX, hfX, hkX, -, -, X₁, st1⟩ := X.newCold F.x (own := own) (C := cls) (index := ik) (n := 6) F.ow (F.N.w hC h1 rfl) hins (F.N.w hC h2 rfl)
    (g := F0 (yy_m b) pc ls st) rfl (by rw [F.c]; exact d0) (by rw [F.r]; exact hk.1) (by rw [F.r]; exact hk.2)
  generalize hT1 : (T.setVm vm₁).pushCell { cls := cX, slots := kX.instanceTypes.map defaultValue, vm := .none } = T1 at X₁ st1
  have hcat : (Value.ref T.heap.size).category = 1 := rfl
  have hcellA : T1.heap[T.heap.size]? = some (freshCell cX kX) := by rw [← hT1]; exact State.heap_pushCell_size _ _
  have d3' : decode (yy_c b).code (pc + 3) = .ok (.dup, 1) := by rw [F.c]; exact d3
  have d4' : decode (yy_c b).code (pc + 4) = .ok (.ldc_w is, 3) := by rw [F.c]; exact d4
  have hstr' : vk_R own is text sa (yy_s b) := vk_R.warm F.N.1 hstr
  have hout : ∀ x ∈ (yy_c b).exceptionTable.toList, covers x (pc + 10) = false := by
    rw [F.tb]
    intro x hx
    cases hx
  have hsz : (yy_s b).heap.size ≤ T.heap.size := X.same.2.1
  obtain ⟨U, hsteps, hrun, hend, hW, hsame, ce, hce, hO⟩ := X₁.ctorThrowS F.x htr (own := own) (cls := cls) (names := names) (ic := ic) F.ow hcls hnames hat (fun x hx => nomatch hx) hfX hkX hcellA hsz (msg := .ref sa) rfl
    (g := { method := yy_m b, pc := pc + 7, locals := ls, stack := .ref sa :: .ref T.heap.size :: .ref T.heap.size :: st, locked := none }) rfl (by rw [F.ml, ← F.n]; exact hl.1) rfl rfl (rest := st) rfl
    (by rw [F.c]; exact d6) (by rw [F.c]; exact d9) hout (by rw [F.r]; exact hR.1) (by rw [F.r]; simp only [List.map_cons, List.sum_cons, hcat]; show 2 * 0 + _ + _ ≤ _; have := hR.2; omega) F.lk
  obtain ⟨f1, f2⟩ := yy_kept hsame
  refine ⟨U, ?_, ?_⟩
  · refine st1 _ ?_
    show Steps (yy_p b).tables (yy_e b) (yy_b b) (T1.setTop { method := yy_m b, pc := pc + 3, locals := ls, stack := .ref T.heap.size :: st, locked := none }) _
    have hx := F.x
    jvm_step X₁.here [X₁.here.top, hx, d3', Value.category]
    exact X₁.ldcStringW F.x (own := own) (text := text) (index := is) (a := sa) F.ow hstr'.1 hstr'.2
      (g := { method := yy_m b, pc := pc + 4, locals := ls, stack := .ref T.heap.size :: .ref T.heap.size :: st, locked := none }) rfl d4' _ hsteps
  · rw [F.q]
    refine ⟨.threw T.heap.size, hrun, hend, .inr cls, [], ⟨_, ce, rfl, hce, hO.vm, hO.cls⟩, ?_, hW, hsame.mono hk.1 hk.2, fun _ h => nomatch h⟩
    refine hp U.heap ?_
    rw [← hH]
    exact ⟨f1, fun q hq => f2 q hq (fun x hx => nomatch hx)⟩
end YD
end
section
/-! PART D1b: an exception whose constructor passes its text on by another pool entry than 7 (no stack traces): from the constructor's call to 'threw' -/
section YX13
variable {p : Program} {l : Launch} {e : Env} {R : Room} {s : State} {m : MethodId} {args : Array Value} {below : List Frame} {meth : Method} {c : Code} {W9 : State} {locs : List Loc} {cells slots : Nat}
set_option maxHeartbeats 1000000 in
theorem yy_ctorX (X : Stand p l e R s m args below meth c W9 locs cells slots) (hexec : p.tables.exec = Jvm.exec) (htr : e.platform.stackTraces = false) {own cls : String} {names : List String} {ic ix : Nat} {rx : ByteArray}
    (x0 : decode rx 0 = .ok (.aload_n 0, 1)) (x1 : decode rx 1 = .ok (.aload_n 1, 1)) (x2 : decode rx 2 = .ok (.invokespecial ix, 3)) (x5 : decode rx 5 = .ok (.return_, 1))
    (hown : s.vm.findClass own = some m.cls) (hcls : Bundle.fit cls = true) (hnames : ∀ n ∈ names, Bundle.fit n = true) (h : ∀ w ∈ Bundle.ownAtomsX own ic cls ix rx names, w.before args s = true)
    (hlocs : ∀ x ∈ locs, ∀ cell, s.heap[x.base]? = some cell → cell.vm.isStatics = false)
    {a : Addr} {cX : ClassId} {kX : Class} (hfX : s.vm.findClass cls = some cX) (hkX : s.vm.classes[cX]? = some kX) (hcell : W9.heap[a]? = some (freshCell cX kX)) (hnew : s.heap.size ≤ a) {msg : Value} (hmsg : msg.isRef = true)
    {g : JFrame} (hg : g.method = m) (hsize : g.locals.size = c.maxLocals) (hlocked : g.locked = none) (hentered : g.entered = []) {rest : List Value} (hstack : g.stack = msg :: .ref a :: .ref a :: rest)
    (hd6 : decode c.code g.pc = .ok (.invokespecial ic, 3)) (hd9 : decode c.code (g.pc + 3) = .ok (.athrow, 1)) (hout : ∀ x ∈ c.exceptionTable.toList, covers x (g.pc + 3) = false)
    (hRf : names.length + 3 < R.frames) (hRl : 2 * g.monitorRoom + ((Value.ref a :: rest).map fun v => v.category).sum + (13 * (names.length + 1) + 42) ≤ R.locals) (hlocks : meth.locks = false) :
    ∃ U : State, Steps p.tables e below (W9.setTop g) U ∧ U.status = .running ∧ Ended U below (.threw a) ∧ s.WarmedH U.vm ∧ s.sameButNew ({ U with vm := s.vm } : State) locs cells slots ∧ ∃ ce : Cell, U.heap[a]? = some ce ∧ ce.vm = .none ∧ s.vm.findClass cls = some ce.cls := by
  have hpl : e.platform.magicAccessors = ({} : Platform).magicAccessors := by rw [X.admits.platform]
  have hw : ∀ w, w ∈ Bundle.ownAtomsX own ic cls ix rx names → w.holds args s none s [] = true := fun w hm => h w hm
  obtain ⟨T, Z0, L, -, Y⟩ := ThrowableC.of_atoms (args := args) (by rw [X.admits.platform]) (by rw [X.admits.platform]) hpl (fun w hm => h w (by simp [Bundle.ownAtomsX, hm]))
  obtain ⟨Z, M, LZ, LM, hnZ⟩ := Init0T.ofS_atoms (args := args) hpl L Y (fun w hm => h w (by simp [Bundle.ownAtomsX, hm]))
  obtain ⟨P1, Ps, hlen, L1, hL, hP1m, hlink1, hlink⟩ := Bundle.chainSX (args := args) hpl hnZ x0 x1 x2 x5 names cls hcls hnames (fun w hm => h w (by simp [Bundle.ownAtomsX, hm]))
  have hfound : s.vm.findClass cls = some P1.m.cls := findClass_of_methodNamed hP1m
  cases Option.some.inj (hfX.symm.trans hfound)
  obtain ⟨c1, k1, hc1, hk, hord, -, -, hn6⟩ := Cond.instantiable_spec (hw (.instantiable cls 6) (by simp [Bundle.ownAtomsX]))
  cases Option.some.inj (hc1.symm.trans hfound)
  cases Option.some.inj (hkX.symm.trans hk)
  have hsel : ∀ (y : MethodName) (my : MethodId), s.methodNamed? y = some my → y.cls ≠ "java/lang/invoke/MethodHandle" ∧ y.cls ≠ "java/lang/invoke/VarHandle" → (Cond.selects cls y y).holds args s none s [] = true → selectMethod e.platform s.vm P1.m.cls my = .method my := by
    intro y my hy hy2 hs
    obtain ⟨c2, r2, m2, q1, q2, q3, q4, -⟩ := Cond.selects_spec hs
    cases Option.some.inj (q1.symm.trans hfound)
    cases Option.some.inj (q2.symm.trans (State.methodFound?_of_named hy hy2))
    cases Option.some.inj (q3.symm.trans hy)
    rw [Launch.admits_selectMethod X.admits]; exact q4
  have hsel0 := hsel _ _ Y.fill0 (by decide) (hw (.selects cls Bundle.tFill0 Bundle.tFill0) (by simp [Bundle.ownAtomsX]))
  have hselF := hsel _ _ Y.fill (by decide) (hw (.selects cls Bundle.tFill Bundle.tFill) (by simp [Bundle.ownAtomsX]))
  obtain ⟨cS0, hcS0, hiss⟩ := Y.statics
  obtain ⟨u0, hu0⟩ := Cond.staticRefV Y.unassigned L.unassignedStatic L.statics hcS0 hiss (hw (.isRef (.static Bundle.tN "UNASSIGNED_STACK" Bundle.steD)) (by simp [Bundle.ownAtomsX]))
  obtain ⟨sen, hsen⟩ := Cond.staticRefV Y.sentinel L.sentinelStatic L.statics hcS0 hiss (hw (.isRef (.static Bundle.tN "SUPPRESSED_SENTINEL" Bundle.listD)) (by simp [Bundle.ownAtomsX]))
  obtain ⟨ci198, i198, fB, hk198, hg198, ha198, hsB, -, hnB, htB, hffB⟩ := Cond.ownField (t := .object "java/lang/Object") Y.found L.cls (by decide +kernel) (hw (.fieldLink Bundle.tN 198 Bundle.tN "backtrace" "Ljava/lang/Object;") (by simp [Bundle.ownAtomsX])) (hw (.lays Bundle.tN Bundle.tN "backtrace" "Ljava/lang/Object;") (by simp [Bundle.ownAtomsX])) e.platform hpl
  obtain ⟨cS, hcS', heS, -, hkeep⟩ := X.same.2.2.2.2.2 T.aS cS0 hcS0
  have hcS : W9.heap[T.aS]? = some cS := hcS'
  have hnl : ∀ i, (⟨T.aS, i⟩ : Loc) ∉ locs := fun i hm => by
    have := hlocs _ hm cS0 hcS0
    rw [hiss] at this; cases this
  have hkS : cS.vm ≠ .unknown := by
    rw [heS]; intro hu
    rw [show cS0.vm = .unknown from hu] at hiss
    cases hiss
  have hne : T.aS ≠ a := Nat.ne_of_lt (Nat.lt_of_lt_of_le (Array.getElem?_eq_some_iff.mp hcS0).1 hnew)
  obtain ⟨iM, hffM⟩ := Y.msg
  obtain ⟨tyC, dC, hdC, hdnC⟩ := Cond.laysAt hfound hk Y.cause (hw (.lays cls Bundle.tN "cause" "Ljava/lang/Throwable;") (by simp [Bundle.ownAtomsX]))
  obtain ⟨tyS, dS, hdS, hdnS⟩ := Cond.laysAt hfound hk Y.stack (hw (.lays cls Bundle.tN "stackTrace" Bundle.steD) (by simp [Bundle.ownAtomsX]))
  obtain ⟨tyP, dP, hdP, hdnP⟩ := Cond.laysAt hfound hk Y.supp (hw (.lays cls Bundle.tN "suppressedExceptions" Bundle.listD) (by simp [Bundle.ownAtomsX]))
  obtain ⟨tyM, dM, hdM, hdnM⟩ := Cond.laysAt hfound hk hffM (hw (.lays cls Bundle.tN "detailMessage" "Ljava/lang/String;") (by simp [Bundle.ownAtomsX]))
  obtain ⟨tyB, dB, hdB, hdnB⟩ := Cond.laysAt hfound hk hffB (hw (.lays cls Bundle.tN "backtrace" "Ljava/lang/Object;") (by simp [Bundle.ownAtomsX]))
  have bC := Cond.laysApart hdB hdC hdnB hdnC (by rw [hnB, Y.causeName]; decide)
  have bS := Cond.laysApart hdB hdS hdnB hdnS (by rw [hnB, Y.stackName]; decide)
  have bP := Cond.laysApart hdB hdP hdnB hdnP (by rw [hnB, Y.suppName]; decide)
  have hskip : SkipFacts T e.platform s (fun u => u) u0 ((preparedCellV T.toThrowableT (freshCell P1.m.cls kX) a u0 sen).withEntry W9.cur) :=
    ⟨{ ci198 := ci198, i198 := i198, fBack := fB }, ⟨hk198, hg198, ha198, hsB⟩, by
      have := fresh_default (c := P1.m.cls) tyB
      rw [htB] at this
      simpa [preparedCellV, Cell.setSlot, Cell.withEntry, Array.getElem?_setIfInBounds, bC, bS, bP, bC.symm, bS.symm, bP.symm, defaultValue] using this, fun _ _ => rfl⟩
  obtain ⟨tm, methC, cdC, kC, vm₁, hnC, -, -, -, -, -, -, -, hW₁, st1⟩ := Steps.initColdS (tb := p.tables) (e := e) (below := below) (s := s) (U := W9) X.here hexec X.warmed hpl hown (t := Bundle.initS cls) rfl rfl (Bundle.fit_spec hcls).2
    (hw (.methodLink own ic (Bundle.initS cls)) (by simp [Bundle.ownAtomsX])) (h (.instanceMethod (Bundle.initS cls)) (by cases names <;> simp [Bundle.ownAtomsX, Bundle.chainSAtomsX, Bundle.passSAtoms])) (bytes := rx) (maxL := 2) (h (.code (Bundle.initS cls) rx 2 none) (by cases names <;> simp [Bundle.ownAtomsX, Bundle.chainSAtomsX, Bundle.passSAtoms]))
    (f := g) hg (a := a) (msg := msg) (rest := .ref a :: rest) hstack hd6
  cases Option.some.inj (hnC.symm.trans hP1m)
  have X₁ := X.noted hW₁
  obtain ⟨vm₂, X₂, st2⟩ := X₁.ctorMessageOffV hexec (g := { g with stack := .ref a :: rest }) hg hsize T L Z LZ M LM (P1 :: Ps)
    (fun P hP => by rcases List.mem_cons.mp hP with rfl | hP; exact L1; exact hL P hP) ⟨hlink1, hlink⟩ (u0 := u0) (sen := sen) (self := a) hmsg (cell := freshCell P1.m.cls kX) (cellS := cS)
    hcell (fun _ => by simp) (by simp) rfl rfl hsel0 hselF hcS hne hkS (by rw [hkeep _ (hnl _)]; exact hu0) (by rw [hkeep _ (hnl _)]; exact hsen)
    (Takes.of_laid hk hord tyC (by rw [Y.causeType]; rfl)) (Takes.of_laid hk hord tyS (by rw [Y.stackType]; exact fits_refV_array _ u0)) (Takes.of_laid hk hord tyP (by rw [Y.suppType]; exact fits_refV_object _ sen))
    (Takes.of_laid hk hord tyM (by rw [Y.msgType]; exact fits_refV_object _ ⟨msg, hmsg⟩)) Y.objLocals hskip htr [] hd6
    (by simp only [List.length_cons, hlen]; omega) (by simp only [List.length_cons, hlen]; exact hRl)
  obtain ⟨hwalk, hrun, hended, hWU, hsame⟩ := X₂.athrowLeaves hexec (g := { g with stack := .ref a :: rest, pc := g.pc + 3 }) hg hlocked hentered hout (a := a) (rest := rest) rfl hd9 hlocks
  have hlt : a < ((W9.setVm vm₁).setVm vm₂).heap.size := (Array.getElem?_eq_some_iff.mp hcell).1
  have hU := heapAt_setCell_self (s := (W9.setVm vm₁).setVm vm₂) (plainBareV T.toThrowableT (freshCell P1.m.cls kX) a u0 sen msg) hlt
  refine ⟨_, st1 _ (fun acts => ?_), hrun, hended, hWU, hsame.weaken (fun y hy hlt' => ?_) (Nat.le_refl _) (Nat.le_refl _), _, hU, rfl, hfound⟩
  · rw [doInvoke_state]
    exact st2 _ hwalk
  · rcases List.mem_append.mp hy with h1 | h1
    · exact h1
    · have hb : y.base = a := by
        simp only [List.mem_cons, List.not_mem_nil, or_false] at h1
        rcases h1 with rfl | rfl | rfl | rfl | rfl <;> rfl
      rw [hb] at hlt'
      exact absurd hlt' (Nat.not_lt.mpr hnew)
end YX13
section YD13
variable {l : Launch} {z : State} {b : yy_T} {rm : Room} {cc : ByteArray} {nL : Nat} {own : String} {ret : Option FieldType} {Post : yy_R → Heap → Prop}
variable {H : Heap} {k : Nat × Nat} {pc : Nat} {lv : List (Nat × Value)} {st : List Value}
theorem yy_throwX {Ts : List Cond} {a0 : Array Value} (F : yy_A l z b rm cc nL own ret [] Post) (hC : ∀ w ∈ Ts, w.before a0 z = true) (hlt : l.stackTraces = false) {cls text : String} {names : List String} {ik is ic ix sa : Nat} {rx : ByteArray}
    (x0 : decode rx 0 = .ok (.aload_n 0, 1)) (x1 : decode rx 1 = .ok (.aload_n 1, 1)) (x2 : decode rx 2 = .ok (.invokespecial ix, 3)) (x5 : decode rx 5 = .ok (.return_, 1)) (hcls : Bundle.fit cls = true) (hnames : ∀ n ∈ names, Bundle.fit n = true)
    (h1 : Cond.classLink own ik cls ∈ Ts) (h2 : Cond.initialized cls ∈ Ts) (hstr : vk_R own is text sa z) (hat : ∀ w ∈ Bundle.ownAtomsX own ic cls ix rx names, w.before (yy_a b) (yy_s b) = true) (hH : (yy_s b).heap = H)
    (hR : names.length + 3 < rm.frames ∧ (st.map fun v => v.category).sum + (13 * (names.length + 1) + 43) ≤ rm.locals) (hk : k.1 + 1 ≤ rm.cells ∧ k.2 + 6 ≤ rm.slots)
    (d0 : decode cc pc = .ok (.new ik, 3)) (d3 : decode cc (pc + 3) = .ok (.dup, 1)) (d4 : decode cc (pc + 4) = .ok (.ldc is, 2)) (d6 : decode cc (pc + 6) = .ok (.invokespecial ic, 3)) (d9 : decode cc (pc + 9) = .ok (.athrow, 1))
    (hp : ∀ H1 : Heap, yy_ext H H1 → Post (.inr cls) H1) : yy_Y b H [] k pc lv st := by
  intro ls hl T hT X
  have htr : (yy_e b).platform.stackTraces = false := (show (yy_e b).platform.stackTraces = (yy_l b).stackTraces by rw [X.admits.platform]).trans (by rw [F.ll]; exact hlt)
  have hins : (Cond.instantiable cls 6).before (yy_a b) (yy_s b) = true := hat _ (by simp [Bundle.ownAtomsX])
  obtain ⟨vm₁, cX, kX, hfX, hkX, -, -, X₁, st1⟩ := X.newCold F.x (own := own) (C := cls) (index := ik) (n := 6) F.ow (F.N.w hC h1 rfl) hins (F.N.w hC h2 rfl)
    (g := F0 (yy_m b) pc ls st) rfl (by rw [F.c]; exact d0) (by rw [F.r]; exact hk.1) (by rw [F.r]; exact hk.2)
  generalize hT1 : (T.setVm vm₁).pushCell { cls := cX, slots := kX.instanceTypes.map defaultValue, vm := .none } = T1 at X₁ st1
  have hcat : (Value.ref T.heap.size).category = 1 := rfl
  have hcellA : T1.heap[T.heap.size]? = some (freshCell cX kX) := by rw [← hT1]; exact State.heap_pushCell_size _ _
  have d3' : decode (yy_c b).code (pc + 3) = .ok (.dup, 1) := by rw [F.c]; exact d3
  have d4' : decode (yy_c b).code (pc + 4) = .ok (.ldc is, 2) := by rw [F.c]; exact d4
  have hstr' : vk_R own is text sa (yy_s b) := vk_R.warm F.N.1 hstr
  have hout : ∀ x ∈ (yy_c b).exceptionTable.toList, covers x (pc + 9) = false := by
    rw [F.tb]
    intro x hx
    cases hx
  have hsz : (yy_s b).heap.size ≤ T.heap.size := X.same.2.1
  obtain ⟨U, hsteps, hrun, hend, hW, hsame, ce, hce, hcv, hcl⟩ := yy_ctorX X₁ F.x htr x0 x1 x2 x5 (own := own) (cls := cls) (names := names) (ic := ic) F.ow hcls hnames hat (fun x hx => nomatch hx) hfX hkX hcellA hsz (msg := .ref sa) rfl
    (g := { method := yy_m b, pc := pc + 6, locals := ls, stack := .ref sa :: .ref T.heap.size :: .ref T.heap.size :: st, locked := none }) rfl (by rw [F.ml, ← F.n]; exact hl.1) rfl rfl (rest := st) rfl
    (by rw [F.c]; exact d6) (by rw [F.c]; exact d9) hout (by rw [F.r]; exact hR.1) (by rw [F.r]; simp only [List.map_cons, List.sum_cons, hcat]; show 2 * 0 + _ + _ ≤ _; have := hR.2; omega) F.lk
  obtain ⟨f1, f2⟩ := yy_kept hsame
  refine ⟨U, ?_, ?_⟩
  · refine st1 _ ?_
    show Steps (yy_p b).tables (yy_e b) (yy_b b) (T1.setTop { method := yy_m b, pc := pc + 3, locals := ls, stack := .ref T.heap.size :: st, locked := none }) _
    have hx := F.x
    jvm_step X₁.here [X₁.here.top, hx, d3', Value.category]
    exact X₁.ldcString F.x (own := own) (text := text) (index := is) (a := sa) F.ow hstr'.1 hstr'.2
      (g := { method := yy_m b, pc := pc + 4, locals := ls, stack := .ref T.heap.size :: .ref T.heap.size :: st, locked := none }) rfl d4' _ hsteps
  · rw [F.q]
    refine ⟨.threw T.heap.size, hrun, hend, .inr cls, [], ⟨_, ce, rfl, hce, hcv, hcl⟩, ?_, hW, hsame.mono hk.1 hk.2, fun _ h => nomatch h⟩
    refine hp U.heap ?_
    rw [← hH]
    exact ⟨f1, fun q hq => f2 q hq (fun x hx => nomatch hx)⟩
end YD13
end
section
/-! PART D2: the demands -/
theorem str_197 {l : Launch} {z : State} {a0 : Array Value} {D : va_G} {ca : kca} (X : kcx l z a0 D ca) : ∃ sa : Nat, vk_R R_K 197 "no such container" sa z := yy_str X q_247 (flat_of_before _ X.2.2.1 _ (by decide +kernel))
set_option maxRecDepth 100000 in
theorem oa_199 : ∀ w ∈ Bundle.ownAtoms R_K 199 "java/lang/IndexOutOfBoundsException" ["java/lang/RuntimeException", "java/lang/Exception"], yy_okw w = true ∧ (w ∈ lw_tbl ∨ w = .isRef (.static Bundle.tN "UNASSIGNED_STACK" Bundle.steD) ∨ w = .isRef (.static Bundle.tN "SUPPRESSED_SENTINEL" Bundle.listD)) := by decide +kernel
theorem str_202 {l : Launch} {z : State} {a0 : Array Value} {D : va_G} {ca : kca} (X : kcx l z a0 D ca) : ∃ sa : Nat, vk_R R_K 202 "no such iterator" sa z := yy_str X q_770 (flat_of_before _ X.2.2.1 _ (by decide +kernel))
theorem str_204 {l : Launch} {z : State} {a0 : Array Value} {D : va_G} {ca : kca} (X : kcx l z a0 D ca) : ∃ sa : Nat, vk_R R_K 204 "the iterator was not opened" sa z := yy_str X q_790 (flat_of_before _ X.2.2.1 _ (by decide +kernel))
theorem str_236 {l : Launch} {z : State} {a0 : Array Value} {D : va_G} {ca : kca} (X : kcx l z a0 D ca) : ∃ sa : Nat, vk_R R_K 236 "there are as many containers as there may be" sa z := yy_str X q_157 (flat_of_before _ X.2.2.1 _ (by decide +kernel))
set_option maxRecDepth 100000 in
theorem oa_238 : ∀ w ∈ Bundle.ownAtoms R_K 238 "java/lang/IllegalStateException" ["java/lang/RuntimeException", "java/lang/Exception"], yy_okw w = true ∧ (w ∈ lw_tbl ∨ w = .isRef (.static Bundle.tN "UNASSIGNED_STACK" Bundle.steD) ∨ w = .isRef (.static Bundle.tN "SUPPRESSED_SENTINEL" Bundle.listD)) := by decide +kernel
theorem str_241 {l : Launch} {z : State} {a0 : Array Value} {D : va_G} {ca : kca} (X : kcx l z a0 D ca) : ∃ sa : Nat, vk_R R_K 241 "not for this kind of container" sa z := yy_str X q_280 (flat_of_before _ X.2.2.1 _ (by decide +kernel))
set_option maxRecDepth 100000 in
theorem oa_243 : ∀ w ∈ Bundle.ownAtoms R_K 243 "java/lang/UnsupportedOperationException" ["java/lang/RuntimeException", "java/lang/Exception"], yy_okw w = true ∧ (w ∈ lw_tbl ∨ w = .isRef (.static Bundle.tN "UNASSIGNED_STACK" Bundle.steD) ∨ w = .isRef (.static Bundle.tN "SUPPRESSED_SENTINEL" Bundle.listD)) := by decide +kernel
theorem str_246 {l : Launch} {z : State} {a0 : Array Value} {D : va_G} {ca : kca} (X : kcx l z a0 D ca) : ∃ sa : Nat, vk_R R_K 246 "an argument is not allowed here" sa z := yy_str X q_117 (flat_of_before _ X.2.2.1 _ (by decide +kernel))
set_option maxRecDepth 100000 in
theorem oa_248 : ∀ w ∈ Bundle.ownAtoms R_K 248 "java/lang/IllegalArgumentException" ["java/lang/RuntimeException", "java/lang/Exception"], yy_okw w = true ∧ (w ∈ lw_tbl ∨ w = .isRef (.static Bundle.tN "UNASSIGNED_STACK" Bundle.steD) ∨ w = .isRef (.static Bundle.tN "SUPPRESSED_SENTINEL" Bundle.listD)) := by decide +kernel
theorem str_251 {l : Launch} {z : State} {a0 : Array Value} {D : va_G} {ca : kca} (X : kcx l z a0 D ca) : ∃ sa : Nat, vk_R R_K 251 "there is none such" sa z := yy_str X q_439 (flat_of_before _ X.2.2.1 _ (by decide +kernel))
set_option maxRecDepth 100000 in
theorem oa_253 : ∀ w ∈ Bundle.ownAtomsX R_K 253 "java/util/NoSuchElementException" 13 prog_19_method_4_code ["java/lang/RuntimeException", "java/lang/Exception"], yy_okw w = true ∧ (w ∈ lw_tbl ∨ w = .isRef (.static Bundle.tN "UNASSIGNED_STACK" Bundle.steD) ∨ w = .isRef (.static Bundle.tN "SUPPRESSED_SENTINEL" Bundle.listD)) := by decide +kernel
theorem str_259 {l : Launch} {z : State} {a0 : Array Value} {D : va_G} {ca : kca} (X : kcx l z a0 D ca) : ∃ sa : Nat, vk_R R_K 259 "the list is stale" sa z := yy_str X q_308 (flat_of_before _ X.2.2.1 _ (by decide +kernel))
set_option maxRecDepth 100000 in
theorem oa_261 : ∀ w ∈ Bundle.ownAtoms R_K 261 "java/lang/RuntimeException" ["java/lang/Exception"], yy_okw w = true ∧ (w ∈ lw_tbl ∨ w = .isRef (.static Bundle.tN "UNASSIGNED_STACK" Bundle.steD) ∨ w = .isRef (.static Bundle.tN "SUPPRESSED_SENTINEL" Bundle.listD)) := by decide +kernel
theorem str_263 {l : Launch} {z : State} {a0 : Array Value} {D : va_G} {ca : kca} (X : kcx l z a0 D ca) : ∃ sa : Nat, vk_R R_K 263 "the iterator is stale" sa z := yy_str X q_799 (flat_of_before _ X.2.2.1 _ (by decide +kernel))
theorem str_268 {l : Launch} {z : State} {a0 : Array Value} {D : va_G} {ca : kca} (X : kcx l z a0 D ca) : ∃ sa : Nat, vk_R R_K 268 "the base is full" sa z := yy_str X q_499 (flat_of_before _ X.2.2.1 _ (by decide +kernel))
set_option maxRecDepth 100000 in
set_option maxHeartbeats 4000000 in
/-- it is so -/
theorem c_K_demandKind {l : Launch} {z : State} {a0 : Array Value} {D : va_G} {ca : kca} (X : kcx l z a0 D ca)  : yy_M l z y_K_demandKind (.code y_K_demandKind b_K_demandKind 1 none) ({ frames := 0, cells := 0, slots := 0, locals := 0 }) [.int 1] (fun _ => True) (yy_rv) := by
  refine yy_body (plainFor_of_name (by decide)) (Nat.le_of_ble_eq_true rfl) (fun b H F hS hP hH hnm => ?_)
  refine yy_iload_n F d_K_demandKind_0 (n := 1) rfl 0 rfl ?_
  refine yy_if_ne_t (tgt := 14) F d_K_demandKind_1 (by decide) (by decide) ?_
  exact yy_vret F hS ⟨Nat.zero_le _, Nat.zero_le _⟩ rfl d_K_demandKind_14 (⟨rfl, rfl⟩)
set_option maxRecDepth 100000 in
set_option maxHeartbeats 4000000 in
/-- it is not so -/
theorem c_K_demandKind_no {l : Launch} {z : State} {a0 : Array Value} {D : va_G} {ca : kca} (X : kcx l z a0 D ca)  : yy_M l z y_K_demandKind (.code y_K_demandKind b_K_demandKind 1 none) ({ frames := 6, cells := 1, slots := 6, locals := 82 }) [.int 0] (fun _ => True) (yy_tx "java/lang/UnsupportedOperationException") := by
  refine yy_body (plainFor_of_name (by decide)) (Nat.le_of_ble_eq_true rfl) (fun b H F hS hP hH hnm => ?_)
  refine yy_iload_n F d_K_demandKind_0 (n := 1) rfl 0 rfl ?_
  refine yy_if_ne_f (tgt := 14) F d_K_demandKind_1 (n := 4) rfl (by decide) (by decide) ?_
  obtain ⟨sa, hsa⟩ := str_241 X
  exact yy_throwS F X.1 X.2.2.2 (cls := "java/lang/UnsupportedOperationException") (names := ["java/lang/RuntimeException", "java/lang/Exception"]) (by decide +kernel) (by decide +kernel) q_271 q_13 hsa (yy_hat X F.N oa_243) hH ⟨by decide, by decide⟩ ⟨by decide, by decide⟩ d_K_demandKind_4 d_K_demandKind_7 d_K_demandKind_8 d_K_demandKind_10 d_K_demandKind_13 (fun H1 hx => ⟨rfl, hx⟩)
set_option maxRecDepth 100000 in
set_option maxHeartbeats 4000000 in
/-- it is so -/
theorem c_K_demandArgument {l : Launch} {z : State} {a0 : Array Value} {D : va_G} {ca : kca} (X : kcx l z a0 D ca)  : yy_M l z y_K_demandArgument (.code y_K_demandArgument b_K_demandArgument 1 none) ({ frames := 0, cells := 0, slots := 0, locals := 0 }) [.int 1] (fun _ => True) (yy_rv) := by
  refine yy_body (plainFor_of_name (by decide)) (Nat.le_of_ble_eq_true rfl) (fun b H F hS hP hH hnm => ?_)
  refine yy_iload_n F d_K_demandArgument_0 (n := 1) rfl 0 rfl ?_
  refine yy_if_ne_t (tgt := 14) F d_K_demandArgument_1 (by decide) (by decide) ?_
  exact yy_vret F hS ⟨Nat.zero_le _, Nat.zero_le _⟩ rfl d_K_demandArgument_14 (⟨rfl, rfl⟩)
set_option maxRecDepth 100000 in
set_option maxHeartbeats 4000000 in
/-- it is not so -/
theorem c_K_demandArgument_no {l : Launch} {z : State} {a0 : Array Value} {D : va_G} {ca : kca} (X : kcx l z a0 D ca)  : yy_M l z y_K_demandArgument (.code y_K_demandArgument b_K_demandArgument 1 none) ({ frames := 6, cells := 1, slots := 6, locals := 82 }) [.int 0] (fun _ => True) (yy_tx "java/lang/IllegalArgumentException") := by
  refine yy_body (plainFor_of_name (by decide)) (Nat.le_of_ble_eq_true rfl) (fun b H F hS hP hH hnm => ?_)
  refine yy_iload_n F d_K_demandArgument_0 (n := 1) rfl 0 rfl ?_
  refine yy_if_ne_f (tgt := 14) F d_K_demandArgument_1 (n := 4) rfl (by decide) (by decide) ?_
  obtain ⟨sa, hsa⟩ := str_246 X
  exact yy_throwS F X.1 X.2.2.2 (cls := "java/lang/IllegalArgumentException") (names := ["java/lang/RuntimeException", "java/lang/Exception"]) (by decide +kernel) (by decide +kernel) q_73 q_7 hsa (yy_hat X F.N oa_248) hH ⟨by decide, by decide⟩ ⟨by decide, by decide⟩ d_K_demandArgument_4 d_K_demandArgument_7 d_K_demandArgument_8 d_K_demandArgument_10 d_K_demandArgument_13 (fun H1 hx => ⟨rfl, hx⟩)
set_option maxRecDepth 100000 in
set_option maxHeartbeats 4000000 in
/-- it is so -/
theorem c_K_demandThere {l : Launch} {z : State} {a0 : Array Value} {D : va_G} {ca : kca} (X : kcx l z a0 D ca)  : yy_M l z y_K_demandThere (.code y_K_demandThere b_K_demandThere 1 none) ({ frames := 0, cells := 0, slots := 0, locals := 0 }) [.int 1] (fun _ => True) (yy_rv) := by
  refine yy_body (plainFor_of_name (by decide)) (Nat.le_of_ble_eq_true rfl) (fun b H F hS hP hH hnm => ?_)
  refine yy_iload_n F d_K_demandThere_0 (n := 1) rfl 0 rfl ?_
  refine yy_if_ne_t (tgt := 14) F d_K_demandThere_1 (by decide) (by decide) ?_
  exact yy_vret F hS ⟨Nat.zero_le _, Nat.zero_le _⟩ rfl d_K_demandThere_14 (⟨rfl, rfl⟩)
set_option maxRecDepth 100000 in
set_option maxHeartbeats 4000000 in
/-- it is not so -/
theorem c_K_demandThere_no {l : Launch} {z : State} {a0 : Array Value} {D : va_G} {ca : kca} (X : kcx l z a0 D ca)  : yy_M l z y_K_demandThere (.code y_K_demandThere b_K_demandThere 1 none) ({ frames := 6, cells := 1, slots := 6, locals := 82 }) [.int 0] (fun _ => True) (yy_tx "java/util/NoSuchElementException") := by
  refine yy_body (plainFor_of_name (by decide)) (Nat.le_of_ble_eq_true rfl) (fun b H F hS hP hH hnm => ?_)
  refine yy_iload_n F d_K_demandThere_0 (n := 1) rfl 0 rfl ?_
  refine yy_if_ne_f (tgt := 14) F d_K_demandThere_1 (n := 4) rfl (by decide) (by decide) ?_
  obtain ⟨sa, hsa⟩ := str_251 X
  exact yy_throwX F X.1 X.2.2.2 (cls := "java/util/NoSuchElementException") (names := ["java/lang/RuntimeException", "java/lang/Exception"]) (ix := 13) (rx := prog_19_method_4_code) (by decide +kernel) (by decide +kernel) (by decide +kernel) (by decide +kernel) (by decide +kernel) (by decide +kernel) q_430 q_17 hsa (yy_hat X F.N oa_253) hH ⟨by decide, by decide⟩ ⟨by decide, by decide⟩ d_K_demandThere_4 d_K_demandThere_7 d_K_demandThere_8 d_K_demandThere_10 d_K_demandThere_13 (fun H1 hx => ⟨rfl, hx⟩)
end
section
/-! PART pic: the state that the class and the reference both picture -/
/-- a function, changed at one place -/
def up1 {α : Type} (f : Nat → α) (i : Nat) (x : α) : Nat → α := fun q => if q = i then x else f q
theorem up1_s {α : Type} (f : Nat → α) (i : Nat) (x : α) : up1 f i x i = x := if_pos rfl
theorem up1_o {α : Type} (f : Nat → α) {i q : Nat} (x : α) (h : q ≠ i) : up1 f i x q = f q := if_neg h
theorem up1_up1 {α : Type} (f : Nat → α) (i : Nat) (x y : α) : up1 (up1 f i x) i y = up1 f i y := by
  funext q
  unfold up1
  split <;> rfl
theorem up1_id {α : Type} (f : Nat → α) (i : Nat) : up1 f i (f i) = f := by
  funext q
  unfold up1
  split
  · rename_i h
    rw [h]
  · rfl
/-- a base's own: count, changes, room, numbers, values -/
abbrev kS : Type := Nat × Nat × Nat × (Nat → Int32) × (Nat → Int32)
/-- a container's own: kind, base, what it is a part of, start, count, seen changes, low, high -/
abbrev kC : Type := Int32 × Nat × Nat × Nat × Nat × Nat × Int32 × Int32
/-- an iterator's own: over, place, latest, known changes -/
abbrev kW : Type := Option Nat × Nat × Int32 × Nat
abbrev ks : Type := Nat × (Nat → kC) × (Nat → kS) × (Nat → kW)
abbrev k_m (σ : ks) : Nat := σ.1
abbrev k_C (σ : ks) (c : Nat) : kC := σ.2.1 c
abbrev k_S (σ : ks) (b : Nat) : kS := σ.2.2.1 b
abbrev k_W (σ : ks) (i : Nat) : kW := σ.2.2.2 i
abbrev s_ct (s : kS) : Nat := s.1
abbrev s_ch (s : kS) : Nat := s.2.1
abbrev s_ro (s : kS) : Nat := s.2.2.1
abbrev s_nu (s : kS) : Nat → Int32 := s.2.2.2.1
abbrev s_vl (s : kS) : Nat → Int32 := s.2.2.2.2
abbrev k_kd (σ : ks) (c : Nat) : Int32 := (σ.2.1 c).1
abbrev k_bs (σ : ks) (c : Nat) : Nat := (σ.2.1 c).2.1
abbrev k_of (σ : ks) (c : Nat) : Nat := (σ.2.1 c).2.2.1
abbrev k_fs (σ : ks) (c : Nat) : Nat := (σ.2.1 c).2.2.2.1
abbrev k_ln (σ : ks) (c : Nat) : Nat := (σ.2.1 c).2.2.2.2.1
abbrev k_se (σ : ks) (c : Nat) : Nat := (σ.2.1 c).2.2.2.2.2.1
abbrev k_lo (σ : ks) (c : Nat) : Int32 := (σ.2.1 c).2.2.2.2.2.2.1
abbrev k_hi (σ : ks) (c : Nat) : Int32 := (σ.2.1 c).2.2.2.2.2.2.2
/-- the base's own, of a container -/
abbrev k_B (σ : ks) (c : Nat) : kS := σ.2.2.1 (k_bs σ c)
def k_setC (σ : ks) (c : Nat) (x : kC) : ks := (σ.1, up1 σ.2.1 c x, σ.2.2.1, σ.2.2.2)
def k_setS (σ : ks) (b : Nat) (x : kS) : ks := (σ.1, σ.2.1, up1 σ.2.2.1 b x, σ.2.2.2)
def k_setW (σ : ks) (i : Nat) (x : kW) : ks := (σ.1, σ.2.1, σ.2.2.1, up1 σ.2.2.2 i x)
/-- addresses: the kit, its two rows, containers, stores and their two rows, iterators; whose an address is -/
abbrev kA : Type := Nat × Nat × Nat × (Nat → Nat) × (Nat → Nat) × (Nat → Nat) × (Nat → Nat) × (Nat → Nat) × (Nat → Nat)
abbrev a_k (A : kA) : Nat := A.1
abbrev a_ka (A : kA) : Nat := A.2.1
abbrev a_wa (A : kA) : Nat := A.2.2.1
abbrev a_ad (A : kA) : Nat → Nat := A.2.2.2.1
abbrev a_sa (A : kA) : Nat → Nat := A.2.2.2.2.1
abbrev a_na (A : kA) : Nat → Nat := A.2.2.2.2.2.1
abbrev a_va (A : kA) : Nat → Nat := A.2.2.2.2.2.2.1
abbrev a_wd (A : kA) : Nat → Nat := A.2.2.2.2.2.2.2.1
abbrev a_ow (A : kA) : Nat → Nat := A.2.2.2.2.2.2.2.2
/-- whose the addresses are -/
def ka_ok (z : State) (n : Nat) (A : kA) (σ : ks) : Prop := a_ow A (a_k A) = 1 ∧ a_ow A (a_ka A) = 2 ∧ a_ow A (a_wa A) = 3 ∧ (∀ i, i < 4 → a_ow A (a_wd A i) = 4 + i) ∧ (∀ c, c < k_m σ → a_ow A (a_ad A c) = 10 + c) ∧
  (∀ b, b < k_m σ → k_bs σ b = b → a_ow A (a_sa A b) = 20 + b ∧ a_ow A (a_na A b) = 30 + b ∧ a_ow A (a_va A b) = 40 + b) ∧ (∀ q, a_ow A q ≠ 0 → z.heap.size ≤ q ∧ q < n) ∧ k_m σ ≤ 10 ∧ ∀ c, c < k_m σ → k_bs σ c < k_m σ ∧ k_bs σ (k_bs σ c) = k_bs σ c
/-- a container's fields -/
def k_ab (A : kA) (σ : ks) (c : Nat) : Option Nat := if k_kd σ (k_of σ c) = 6 then some (a_ad A (k_of σ c)) else none
def k_ci (σ : ks) (c : Nat) : Nat := if k_kd σ c = 6 then 2 else if k_kd σ c = 7 then 3 else 1
def k_fl (A : kA) (σ : ks) (c : Nat) : List Value := if k_kd σ c = 6 then [.int 6, .ref (a_sa A (k_bs σ c)), va_rf (k_ab A σ c), .int (nI (k_fs σ c)), .int (nI (k_ln σ c)), .int (nI (k_se σ c))]
  else if k_kd σ c = 7 then [.int 7, .ref (a_sa A (k_bs σ c)), .int (k_lo σ c), .int (k_hi σ c)] else [.int (k_kd σ c), .ref (a_sa A (k_bs σ c))]
def co_at (D : va_G) (H : Heap) (A : kA) (σ : ks) (c : Nat) : Prop := va_at D kcl (a_ad A c, .inr (k_ci σ c, k_fl A σ c)) H
def wk_at (D : va_G) (H : Heap) (A : kA) (σ : ks) (i : Nat) : Prop := va_at D kcl (a_wd A i, .inr (4, [va_rf ((k_W σ i).1.map (a_ad A)), .int (nI (k_W σ i).2.1), .int (k_W σ i).2.2.1, .int (nI (k_W σ i).2.2.2)])) H
def sk_at (D : va_G) (ca : kca) (H : Heap) (A : kA) (kd : Int32) (b : Nat) (s : kS) : Prop := st_at D ca H (a_sa A b) (a_na A b) (a_va A b) kd (nI (s_ro s)) (nI (s_ch s)) (s_ct s) (s_nu s) (s_vl s)
def k_row (A : kA) (σ : ks) : Nat → Option Nat := fun c => if c < k_m σ then some (a_ad A c) else none
def ck_at (D : va_G) (ca : kca) (z : State) (A : kA) (σ : ks) (H : Heap) : Prop := ka_ok z H.size A σ ∧
  va_at D kcl (a_k A, .inr (5, [.ref (a_ka A), .ref (a_wa A), .int (nI (k_m σ))])) H ∧ va_at D kcl (a_ka A, .inl (ca.2.1, 10, .inr (.inr (.inr (.inr (k_row A σ)))))) H ∧ va_at D kcl (a_wa A, .inl (ca.2.2.1, 4, .inr (.inr (.inr (.inr (fun i => if i < 4 then some (a_wd A i) else none)))))) H ∧
  (∀ i, i < 4 → wk_at D H A σ i) ∧ (∀ c, c < k_m σ → co_at D H A σ c) ∧ ∀ b, b < k_m σ → k_bs σ b = b → sk_at D ca H A (k_kd σ b) b (k_S σ b)
section Pic
variable {D : va_G} {ca : kca} {z : State} {A : kA} {σ : ks} {H : Heap}
theorem ka_ok.zz {n q : Nat} (h : ka_ok z n A σ) (hq : a_ow A q ≠ 0) : z.heap.size ≤ q := (h.2.2.2.2.2.2.1 q hq).1
theorem ka_ok.m10 {n : Nat} (h : ka_ok z n A σ) : k_m σ ≤ 10 := h.2.2.2.2.2.2.2.1
theorem ka_ok.ad {n : Nat} (h : ka_ok z n A σ) {c : Nat} (hc : c < k_m σ) : a_ow A (a_ad A c) = 10 + c := h.2.2.2.2.1 c hc
theorem ka_ok.wd {n : Nat} (h : ka_ok z n A σ) {i : Nat} (hc : i < 4) : a_ow A (a_wd A i) = 4 + i := h.2.2.2.1 i hc
theorem ka_ok.st {n : Nat} (h : ka_ok z n A σ) {b : Nat} (hc : b < k_m σ) (hb : k_bs σ b = b) : a_ow A (a_sa A b) = 20 + b ∧ a_ow A (a_na A b) = 30 + b ∧ a_ow A (a_va A b) = 40 + b := h.2.2.2.2.2.1 b hc hb
theorem ka_ok.bs {n : Nat} (h : ka_ok z n A σ) {c : Nat} (hc : c < k_m σ) : k_bs σ c < k_m σ ∧ k_bs σ (k_bs σ c) = k_bs σ c := h.2.2.2.2.2.2.2.2 c hc
theorem ka_ok.zst {n : Nat} (h : ka_ok z n A σ) {b : Nat} (hc : b < k_m σ) (hb : k_bs σ b = b) : st_ok z (a_sa A b) (a_na A b) (a_va A b) := by
  obtain ⟨e1, e2, e3⟩ := h.st hc hb
  have hm := h.m10
  refine ⟨⟨h.zz (by omega), h.zz (by omega), h.zz (by omega)⟩, fun q => ?_, fun q => ?_, fun q => ?_⟩
  · rw [q] at e2; omega
  · rw [q] at e3; omega
  · rw [q] at e3; omega
theorem ck_at.ok (P : ck_at D ca z A σ H) : ka_ok z H.size A σ := P.1
theorem ck_at.k (P : ck_at D ca z A σ H) : va_at D kcl (a_k A, .inr (5, [.ref (a_ka A), .ref (a_wa A), .int (nI (k_m σ))])) H := P.2.1
theorem ck_at.ka (P : ck_at D ca z A σ H) : va_at D kcl (a_ka A, .inl (ca.2.1, 10, .inr (.inr (.inr (.inr (k_row A σ)))))) H := P.2.2.1
theorem ck_at.wa (P : ck_at D ca z A σ H) : va_at D kcl (a_wa A, .inl (ca.2.2.1, 4, .inr (.inr (.inr (.inr (fun i => if i < 4 then some (a_wd A i) else none)))))) H := P.2.2.2.1
theorem ck_at.w (P : ck_at D ca z A σ H) {i : Nat} (h : i < 4) : wk_at D H A σ i := P.2.2.2.2.1 i h
theorem ck_at.c (P : ck_at D ca z A σ H) {c : Nat} (h : c < k_m σ) : co_at D H A σ c := P.2.2.2.2.2.1 c h
theorem ck_at.s (P : ck_at D ca z A σ H) {b : Nat} (h : b < k_m σ) (hb : k_bs σ b = b) : sk_at D ca H A (k_kd σ b) b (k_S σ b) := P.2.2.2.2.2.2 b h hb
/-- of a container: its base's store -/
theorem ck_at.sc (P : ck_at D ca z A σ H) {c : Nat} (h : c < k_m σ) : sk_at D ca H A (k_kd σ (k_bs σ c)) (k_bs σ c) (k_B σ c) := P.s (P.ok.bs h).1 (P.ok.bs h).2
theorem ck_at.sok (P : ck_at D ca z A σ H) {c : Nat} (h : c < k_m σ) : st_ok z (a_sa A (k_bs σ c)) (a_na A (k_bs σ c)) (a_va A (k_bs σ c)) := P.ok.zst (P.ok.bs h).1 (P.ok.bs h).2
/-- the cells that are the kit's alone have changed -/
def kpA (A : kA) (H H1 : Heap) : Prop := H.size ≤ H1.size ∧ ∀ q : Nat, q < H.size → a_ow A q = 0 → H1[q]? = H[q]?
theorem kpA.rf : kpA A H H := ⟨Nat.le_refl _, fun _ _ _ => rfl⟩
theorem kpA.tr {H1 H2 : Heap} (h : kpA A H H1) (h2 : kpA A H1 H2) : kpA A H H2 := ⟨Nat.le_trans h.1 h2.1, fun q hq h0 => (h2.2 q (Nat.lt_of_lt_of_le hq h.1) h0).trans (h.2 q hq h0)⟩
theorem kpA.ext {H1 : Heap} (h : yy_ext H H1) : kpA A H H1 := ⟨h.1, fun q hq _ => h.2 q hq⟩
theorem kpA.of {L : List Nat} {H1 : Heap} (h : kp L H H1) (hL : ∀ q ∈ L, a_ow A q ≠ 0) : kpA A H H1 := ⟨Nat.le_of_eq h.1.symm, fun q _ h0 => h.2 q (fun h9 => hL q h9 h0)⟩
/-- a picture on a heap that has grown alone -/
theorem ck_at.ext {H1 : Heap} (P : ck_at D ca z A σ H) (h : yy_ext H H1) : ck_at D ca z A σ H1 := by
  obtain ⟨⟨p1, p2, p3, p4, p5, p6, p7, p8⟩, a1, a2, a3, a4, a5, a6⟩ := P
  exact ⟨⟨p1, p2, p3, p4, p5, p6, fun q hq => ⟨(p7 q hq).1, Nat.lt_of_lt_of_le (p7 q hq).2 h.1⟩, p8⟩, h.at a1, h.at a2, h.at a3, fun i hi => h.at (a4 i hi), fun c hc => h.at (a5 c hc), fun b hb e => ⟨h.at (a6 b hb e).1, h.at (a6 b hb e).2.1, h.at (a6 b hb e).2.2⟩⟩
/-- a store's cells have changed -/
theorem ck_at.putS {H1 : Heap} (P : ck_at D ca z A σ H) {b : Nat} (hb : b < k_m σ) (hbb : k_bs σ b = b) {s : kS} (Q : sk_at D ca H1 A (k_kd σ b) b s) (hk : kp [a_sa A b, a_na A b, a_va A b] H H1) : ck_at D ca z A (k_setS σ b s) H1 ∧ kpA A H H1 := by
  obtain ⟨e1, e2, e3⟩ := P.ok.st hb hbb
  have hm := P.ok.m10
  have hkA : kpA A H H1 := kpA.of hk (fun q hq => by
    simp only [List.mem_cons, List.not_mem_nil, or_false] at hq
    rcases hq with rfl | rfl | rfl <;> omega)
  have no : ∀ q, (a_ow A q < 20 ∨ a_ow A q % 10 ≠ b) → q ∉ [a_sa A b, a_na A b, a_va A b] := fun q hq h => by
    simp only [List.mem_cons, List.not_mem_nil, or_false] at h
    rcases h with rfl | rfl | rfl <;> omega
  obtain ⟨p, a1, a2, a3, a4, a5, a6⟩ := P
  have p' := p
  obtain ⟨p1, p2, p3, p4, p5, p6, p7, p8⟩ := p'
  refine ⟨⟨?_, hk.at (no _ (by left; show a_ow A (a_k A) < 20; omega)) a1, hk.at (no _ (by left; show a_ow A (a_ka A) < 20; omega)) a2, hk.at (no _ (by left; show a_ow A (a_wa A) < 20; omega)) a3, fun i hi => hk.at (no _ (by left; show a_ow A (a_wd A i) < 20; rw [p4 i hi]; omega)) (a4 i hi), fun c hc => hk.at (no _ (by left; show a_ow A (a_ad A c) < 20; rw [p5 c hc]; have : c < k_m σ := hc; omega)) (a5 c hc), fun b' hb' e' => ?_⟩, hkA⟩
  · exact ⟨p1, p2, p3, p4, p5, p6, fun q hq => ⟨(p7 q hq).1, by rw [hk.1]; exact (p7 q hq).2⟩, p8⟩
  · by_cases h : b' = b
    · subst h
      show sk_at D ca H1 A (k_kd σ b') b' (up1 σ.2.2.1 b' s b')
      rw [up1_s]
      exact Q
    · show sk_at D ca H1 A (k_kd σ b') b' (up1 σ.2.2.1 b s b')
      rw [up1_o _ _ h]
      have hb9 : b' < k_m σ := hb'
      have hbm : b < k_m σ := hb
      obtain ⟨f1, f2, f3⟩ := p.st hb9 e'
      obtain ⟨o1, o2, o3⟩ := a6 b' hb9 e'
      exact ⟨hk.at (no _ (by right; show a_ow A (a_sa A b') % 10 ≠ b; omega)) o1, hk.at (no _ (by right; show a_ow A (a_na A b') % 10 ≠ b; omega)) o2, hk.at (no _ (by right; show a_ow A (a_va A b') % 10 ≠ b; omega)) o3⟩
end Pic
end
section
/-! PART rowsC: fields and receivers of a container whose class is known by its kind alone -/
section CR
variable {l : Launch} {z : State} {b : yy_T} {rm : Room} {cc : ByteArray} {nL : Nat} {own : String} {ret : Option FieldType} {hh : List (Nat × Nat × Nat × Nat)} {Post : yy_R → Heap → Prop}
variable {H : Heap} {locs : List Loc} {k : Nat × Nat} {pc n : Nat} {lv lv' : List (Nat × Value)} {st : List Value}
variable {a0 : Array Value} {D : va_G} {ca : kca} {A : kA} {σ : ks} {c idx : Nat}
theorem ck_at.c6 (P : ck_at D ca z A σ H) (hc : c < k_m σ) (hk : k_kd σ c = 6) : va_at D kcl (a_ad A c, .inr (2, [.int 6, .ref (a_sa A (k_bs σ c)), va_rf (k_ab A σ c), .int (nI (k_fs σ c)), .int (nI (k_ln σ c)), .int (nI (k_se σ c))])) H := by
  have h := P.c hc
  unfold co_at k_ci k_fl at h
  rw [if_pos hk, if_pos hk] at h
  exact h
theorem ck_at.c7 (P : ck_at D ca z A σ H) (hc : c < k_m σ) (hk : k_kd σ c = 7) : va_at D kcl (a_ad A c, .inr (3, [.int 7, .ref (a_sa A (k_bs σ c)), .int (k_lo σ c), .int (k_hi σ c)])) H := by
  have h := P.c hc
  unfold co_at k_ci k_fl at h
  have h6 : ¬ k_kd σ c = 6 := fun q => absurd (q.symm.trans hk) (by decide)
  rw [if_neg h6, if_neg h6, if_pos hk, if_pos hk] at h
  exact h
theorem ck_at.c0 (P : ck_at D ca z A σ H) (hc : c < k_m σ) (h6 : ¬ k_kd σ c = 6) (h7 : ¬ k_kd σ c = 7) : va_at D kcl (a_ad A c, .inr (1, [.int (k_kd σ c), .ref (a_sa A (k_bs σ c))])) H := by
  have h := P.c hc
  unfold co_at k_ci k_fl at h
  rw [if_neg h6, if_neg h6, if_neg h7, if_neg h7] at h
  exact h
theorem cr_kind (F : yy_A l z b rm cc nL own ret hh Post) (X : kcx l z a0 D ca) (G1 : yy_G lw_tbl kcl own idx 1 0) (G2 : yy_G lw_tbl kcl own idx 2 0) (G3 : yy_G lw_tbl kcl own idx 3 0) (P : ck_at D ca z A σ H) (hc : c < k_m σ) (d : decode cc pc = .ok (.getfield idx, 3)) (hn : pc + 3 = n) (kk : yy_Y b H locs k n lv (.int (k_kd σ c) :: st)) : yy_Y b H locs k pc lv (.ref (a_ad A c) :: st) := by
  by_cases h6 : k_kd σ c = 6
  · exact yy_get F X.1 X.2.1 G2 (P.c6 hc h6) rfl d hn (by rw [h6] at kk; exact kk)
  · by_cases h7 : k_kd σ c = 7
    · exact yy_get F X.1 X.2.1 G3 (P.c7 hc h7) rfl d hn (by rw [h7] at kk; exact kk)
    · exact yy_get F X.1 X.2.1 G1 (P.c0 hc h6 h7) rfl d hn kk
theorem cr_store (F : yy_A l z b rm cc nL own ret hh Post) (X : kcx l z a0 D ca) (G1 : yy_G lw_tbl kcl own idx 1 1) (G2 : yy_G lw_tbl kcl own idx 2 1) (G3 : yy_G lw_tbl kcl own idx 3 1) (P : ck_at D ca z A σ H) (hc : c < k_m σ) (d : decode cc pc = .ok (.getfield idx, 3)) (hn : pc + 3 = n) (kk : yy_Y b H locs k n lv (.ref (a_sa A (k_bs σ c)) :: st)) : yy_Y b H locs k pc lv (.ref (a_ad A c) :: st) := by
  by_cases h6 : k_kd σ c = 6
  · exact yy_get F X.1 X.2.1 G2 (P.c6 hc h6) rfl d hn kk
  · by_cases h7 : k_kd σ c = 7
    · exact yy_get F X.1 X.2.1 G3 (P.c7 hc h7) rfl d hn kk
    · exact yy_get F X.1 X.2.1 G1 (P.c0 hc h6 h7) rfl d hn kk
/-- a container's class, by its kind -/
def k_cls (σ : ks) (c : Nat) : String := if k_kd σ c = 6 then R_P else if k_kd σ c = 7 then R_R else R_G
theorem ck_at.recv {s : State} (P : ck_at D ca z A σ H) (hc : c < k_m σ) (X : kcx l z a0 D ca) (hN : yy_N z s) : ∃ cell : Cell, H[a_ad A c]? = some cell ∧ cell.vm.isStatics = false ∧ s.vm.findClass (k_cls σ c) = some cell.cls := by
  unfold k_cls
  by_cases h6 : k_kd σ c = 6
  · rw [if_pos h6]
    exact yy_recv hN X.2.1 (ci := 2) rfl (P.c6 hc h6)
  · by_cases h7 : k_kd σ c = 7
    · rw [if_neg h6, if_pos h7]
      exact yy_recv hN X.2.1 (ci := 3) rfl (P.c7 hc h7)
    · rw [if_neg h6, if_neg h7]
      exact yy_recv hN X.2.1 (ci := 1) rfl (P.c0 hc h6 h7)
theorem k_sel {x y : MethodName} (h1 : Cond.selects R_G x y ∈ lw_tbl) (h2 : Cond.selects R_P x y ∈ lw_tbl) (h3 : Cond.selects R_R x y ∈ lw_tbl) (σ : ks) (c : Nat) : Cond.selects (k_cls σ c) x y ∈ lw_tbl := by
  unfold k_cls
  split
  · exact h2
  · split
    · exact h3
    · exact h1
theorem k_cls6 (h : k_kd σ c = 6) : k_cls σ c = R_P := if_pos h
theorem k_cls7 (h : k_kd σ c = 7) : k_cls σ c = R_R := by
  unfold k_cls
  rw [if_neg (fun q => absurd (q.symm.trans h) (by decide)), if_pos h]
theorem k_cls0 (h6 : ¬ k_kd σ c = 6) (h7 : ¬ k_kd σ c = 7) : k_cls σ c = R_G := by
  unfold k_cls
  rw [if_neg h6, if_neg h7]
/-- a call of a container's method that is overridden nowhere, or by this class -/
theorem yy_invC {x y : MethodName} {nA : Nat} {av : List Value} {rest : List Value} (F : yy_A l z b rm cc nL own ret hh Post) (X : kcx l z a0 D ca) (P : ck_at D ca z A σ H) (hc : c < k_m σ) (hl : Cond.methodLink own idx x ∈ lw_tbl) (hsm : Cond.sameMethod x.cls x.cls x.name x.desc ∈ lw_tbl) (hd0 : ∀ s : State, yy_N z s → va_Decl s x) (hse : Cond.selects (k_cls σ c) x y ∈ lw_tbl) (hin : Cond.instanceMethod y ∈ lw_tbl)
    (hy : x.cls ≠ "java/lang/invoke/MethodHandle" ∧ x.cls ≠ "java/lang/invoke/VarHandle" ∧ (parseMethodDescriptor x.desc).map (fun d => d.parameters.length) = some nA) (hn : av.length = nA) (d : decode cc pc = .ok (.invokevirtual idx, 3)) :
    yy_PB b H locs k y (.ref (a_ad A c) :: av) pc (av.reverse ++ .ref (a_ad A c) :: rest) rest :=
  yy_invU F X.1 hl hsm (hd0 _ F.N) hse hin hy (P.recv hc X F.N) hn d
/-- a method that is declared with code -/
theorem k_dec {x : MethodName} {bytes : ByteArray} {maxL : Nat} {retY : Option FieldType} (X : kcx l z a0 D ca) (hi : Cond.instanceMethod x ∈ lw_tbl) (hc : Cond.code x bytes maxL retY ∈ lw_tbl) : ∀ s : State, yy_N z s → va_Decl s x := fun s hN => va_Decl.of (args := a0) (hN.w X.1 hi rfl) (hN.w X.1 hc rfl)
theorem k_deca {x : MethodName} (X : kcx l z a0 D ca) (hd : Cond.declares x ∈ lw_tbl) : ∀ s : State, yy_N z s → va_Decl s x := fun s hN => hN.decl X.1 hd
end CR
end
section
/-! PART inv: what holds of every state that a run reaches -/
def so_t (f : Nat → Int32) (n : Nat) : Prop := ∀ i j : Nat, i ≤ j → j < n → f i ≤ f j
def k_fr (σ : ks) (c : Nat) : Prop := k_kd σ c = 6 → k_se σ c = s_ch (k_B σ c)
def k_start (σ : ks) (c : Nat) : Nat := if k_kd σ c = 6 then k_fs σ c else if k_kd σ c = 7 then ym_cnt (ym_bel (s_nu (k_B σ c)) (k_lo σ c) 0) (s_ct (k_B σ c)) else 0
def k_size (σ : ks) (c : Nat) : Nat := if k_kd σ c = 6 then k_ln σ c else if k_kd σ c = 7 then ym_cnt (ym_bel (s_nu (k_B σ c)) (k_hi σ c) 1) (s_ct (k_B σ c)) - ym_cnt (ym_bel (s_nu (k_B σ c)) (k_lo σ c) 0) (s_ct (k_B σ c)) else s_ct (k_B σ c)
def k_stale (σ : ks) (c : Nat) : Bool := decide (k_kd σ c = 6) && decide (¬ k_se σ c = s_ch (k_B σ c))
def k_cov (σ : ks) (c : Nat) (key : Int32) : Bool := !decide (k_kd σ c = 7) || (decide (k_lo σ c ≤ key) && decide (key ≤ k_hi σ c))
def k_isl (kd : Int32) : Bool := decide (kd = 0) || decide (kd = 1) || decide (kd = 6)
def k_ish (kd : Int32) : Bool := decide (kd = 2) || decide (kd = 3)
def k_iss (kd : Int32) : Bool := decide (kd = 4) || decide (kd = 7)
def iv_c (σ : ks) (c : Nat) : Prop := (k_kd σ c = 0 ∨ k_kd σ c = 1 ∨ k_kd σ c = 2 ∨ k_kd σ c = 3 ∨ k_kd σ c = 4 ∨ k_kd σ c = 5 ∨ k_kd σ c = 6 ∨ k_kd σ c = 7) ∧
  (k_bs σ c < k_m σ ∧ k_bs σ (k_bs σ c) = k_bs σ c) ∧ (¬ k_kd σ (k_bs σ c) = 6 ∧ ¬ k_kd σ (k_bs σ c) = 7) ∧ (¬ k_kd σ c = 6 → ¬ k_kd σ c = 7 → k_bs σ c = c) ∧ (k_kd σ c = 7 → k_kd σ (k_bs σ c) = 4) ∧
  (k_kd σ c = 6 → (k_kd σ (k_bs σ c) = 0 ∨ k_kd σ (k_bs σ c) = 1) ∧ k_of σ c < c ∧ k_bs σ (k_of σ c) = k_bs σ c ∧ (k_kd σ (k_of σ c) = 0 ∨ k_kd σ (k_of σ c) = 1 ∨ k_kd σ (k_of σ c) = 6) ∧ k_se σ c ≤ s_ch (k_B σ c) ∧
    (k_se σ c = s_ch (k_B σ c) → k_fs σ c + k_ln σ c ≤ s_ct (k_B σ c) ∧ (k_kd σ (k_of σ c) = 6 → k_se σ (k_of σ c) = s_ch (k_B σ c) ∧ k_ln σ c ≤ k_ln σ (k_of σ c))))
def iv_s (t : Nat) (kd : Int32) (s : kS) : Prop := s_ct s ≤ 24 ∧ s_ch s ≤ t ∧ (4 ≤ s_ro s ∧ s_ro s ≤ 64) ∧ (kd = 0 → s_ct s ≤ s_ro s) ∧ (kd = 2 ∨ kd = 3 → 4 * s_ct s ≤ 3 * s_ro s) ∧ (kd = 3 → s_ct s ≤ 6) ∧ (kd = 4 ∨ kd = 5 → so_t (s_nu s) (s_ct s))
def iv_w (σ : ks) (i c : Nat) : Prop := c < k_m σ ∧ ¬ k_kd σ c = 5 ∧ (k_W σ i).2.2.2 ≤ s_ch (k_B σ c) ∧ (k_fr σ c → (k_W σ i).2.2.2 = s_ch (k_B σ c) → (k_W σ i).2.1 ≤ k_size σ c ∧ ((k_W σ i).2.2.1 = -1 ∨ ∃ j : Nat, j < k_size σ c ∧ (k_W σ i).2.2.1 = nI j))
def iv (t : Nat) (σ : ks) : Prop := k_m σ ≤ 10 ∧ t ≤ 100000 ∧ (∀ c, c < k_m σ → iv_c σ c) ∧ (∀ b, b < k_m σ → k_bs σ b = b → iv_s t (k_kd σ b) (k_S σ b)) ∧ ∀ i, i < 4 → (k_W σ i).2.1 ≤ 24 ∧ ∀ c, (k_W σ i).1 = some c → iv_w σ i c
section Iv
variable {t : Nat} {σ : ks} {c : Nat}
theorem iv.m10 (I : iv t σ) : k_m σ ≤ 10 := I.1
theorem iv.cc (I : iv t σ) (hc : c < k_m σ) : iv_c σ c := I.2.2.1 c hc
theorem iv.bs (I : iv t σ) (hc : c < k_m σ) : k_bs σ c < k_m σ := (I.cc hc).2.1.1
theorem iv.bb (I : iv t σ) (hc : c < k_m σ) : k_bs σ (k_bs σ c) = k_bs σ c := (I.cc hc).2.1.2
theorem iv.s (I : iv t σ) (hc : c < k_m σ) : iv_s t (k_kd σ (k_bs σ c)) (k_B σ c) := I.2.2.2.1 _ (I.bs hc) (I.bb hc)
theorem iv.ct (I : iv t σ) (hc : c < k_m σ) : s_ct (k_B σ c) ≤ 24 := (I.s hc).1
theorem iv.ch (I : iv t σ) (hc : c < k_m σ) : s_ch (k_B σ c) ≤ 100000 := Nat.le_trans (I.s hc).2.1 I.2.1
theorem iv.se (I : iv t σ) (hc : c < k_m σ) (h6 : k_kd σ c = 6) : k_se σ c ≤ s_ch (k_B σ c) := ((I.cc hc).2.2.2.2.2 h6).2.2.2.2.1
theorem iv.b0 (I : iv t σ) (hc : c < k_m σ) (h6 : ¬ k_kd σ c = 6) (h7 : ¬ k_kd σ c = 7) : k_bs σ c = c := (I.cc hc).2.2.2.1 h6 h7
theorem k_start6 (h : k_kd σ c = 6) : k_start σ c = k_fs σ c := if_pos h
theorem k_start7 (h : k_kd σ c = 7) : k_start σ c = ym_cnt (ym_bel (s_nu (k_B σ c)) (k_lo σ c) 0) (s_ct (k_B σ c)) := by
  unfold k_start
  rw [if_neg (fun q => absurd (q.symm.trans h) (by decide)), if_pos h]
theorem k_start0 (h6 : ¬ k_kd σ c = 6) (h7 : ¬ k_kd σ c = 7) : k_start σ c = 0 := by
  unfold k_start
  rw [if_neg h6, if_neg h7]
theorem k_size6 (h : k_kd σ c = 6) : k_size σ c = k_ln σ c := if_pos h
theorem k_size7 (h : k_kd σ c = 7) : k_size σ c = ym_cnt (ym_bel (s_nu (k_B σ c)) (k_hi σ c) 1) (s_ct (k_B σ c)) - ym_cnt (ym_bel (s_nu (k_B σ c)) (k_lo σ c) 0) (s_ct (k_B σ c)) := by
  unfold k_size
  rw [if_neg (fun q => absurd (q.symm.trans h) (by decide)), if_pos h]
theorem k_size0 (h6 : ¬ k_kd σ c = 6) (h7 : ¬ k_kd σ c = 7) : k_size σ c = s_ct (k_B σ c) := by
  unfold k_size
  rw [if_neg h6, if_neg h7]
theorem k_cov0 {key : Int32} (h7 : ¬ k_kd σ c = 7) : k_cov σ c key = true := by simp [k_cov, h7]
theorem k_st0 (h6 : ¬ k_kd σ c = 6) : k_stale σ c = false := by simp [k_stale, h6]
/-- where a container lies in its store, if it is not stale -/
theorem iv.end (I : iv t σ) (hc : c < k_m σ) (hf : k_fr σ c) : k_start σ c + k_size σ c ≤ s_ct (k_B σ c) := by
  by_cases h6 : k_kd σ c = 6
  · rw [k_start6 h6, k_size6 h6]
    exact (((I.cc hc).2.2.2.2.2 h6).2.2.2.2.2 (hf h6)).1
  · by_cases h7 : k_kd σ c = 7
    · rw [k_start7 h7, k_size7 h7]
      have h1 := ym_cnt_le (ym_bel (s_nu (k_B σ c)) (k_hi σ c) 1) (s_ct (k_B σ c))
      have h2 := ym_cnt_le (ym_bel (s_nu (k_B σ c)) (k_lo σ c) 0) (s_ct (k_B σ c))
      omega
    · rw [k_start0 h6 h7, k_size0 h6 h7]
      omega
theorem k_fr_of (h : k_stale σ c = false) : k_fr σ c := fun h6 => by
  simp [k_stale, h6] at h
  exact h
theorem k_fr_0 (h6 : ¬ k_kd σ c = 6) : k_fr σ c := fun h => absurd h h6
end Iv
theorem ym_mx0 {a b : Nat} (ha : a ≤ 24) (hb : b ≤ 24) : ym_mx 0 (nI a - nI b) = nI (a - b) := by
  unfold ym_mx
  by_cases h : b ≤ a
  · rw [pk_sub h]
    by_cases h2 : a - b = 0
    · rw [h2]
      decide
    · rw [if_pos (show (0 : Int32) < nI (a - b) from nI_lt (show 0 < a - b by omega) (by omega))]
  · rw [show a - b = 0 by omega]
    have e : (nI a - nI b).toInt = (a : Int) - b := by
      rw [Int32.toInt_sub, nI_toInt (by omega), nI_toInt (by omega)]
      apply Int.bmod_eq_of_le <;> omega
    rw [if_neg (by rw [Int32.lt_iff_toInt_lt, e]; simp; omega)]
    rfl
end
section
/-! PART C1: what a container is and where it lies -/
def y_C_start : MethodName := ⟨R_C, "start", "()I"⟩
def y_C_count : MethodName := ⟨R_C, "count", "()I"⟩
set_option maxRecDepth 100000 in
set_option maxHeartbeats 4000000 in
theorem c_P_start {l : Launch} {z : State} {a0 : Array Value} {D : va_G} {ca : kca} (X : kcx l z a0 D ca) {A : kA} {σ : ks} {t c : Nat} (I : iv t σ) (hc : c < k_m σ) (h6 : k_kd σ c = 6) : yy_M l z y_P_start (.code y_P_start b_P_start 1 (some .int)) ({ frames := 0, cells := 0, slots := 0, locals := 0 }) [.ref (a_ad A c)] (ck_at D ca z A σ) (yy_ri (nI (k_fs σ c))) := by
  refine yy_body (plainFor_of_name (by decide)) (Nat.le_of_ble_eq_true rfl) (fun b H F hS hP hH hnm => ?_)
  refine yy_aload_n F d_P_start_0 (n := 1) rfl 0 rfl ?_
  refine yy_get F X.1 X.2.1 g_P_15_P (hP.c6 hc h6) rfl d_P_start_1 (n := 4) rfl ?_
  exact yy_iret F hS ⟨Nat.zero_le _, Nat.zero_le _⟩ rfl d_P_start_4 (⟨_, rfl, rfl, rfl⟩)
set_option maxRecDepth 100000 in
set_option maxHeartbeats 4000000 in
theorem c_P_count {l : Launch} {z : State} {a0 : Array Value} {D : va_G} {ca : kca} (X : kcx l z a0 D ca) {A : kA} {σ : ks} {t c : Nat} (I : iv t σ) (hc : c < k_m σ) (h6 : k_kd σ c = 6) : yy_M l z y_P_count (.code y_P_count b_P_count 1 (some .int)) ({ frames := 0, cells := 0, slots := 0, locals := 0 }) [.ref (a_ad A c)] (ck_at D ca z A σ) (yy_ri (nI (k_ln σ c))) := by
  refine yy_body (plainFor_of_name (by decide)) (Nat.le_of_ble_eq_true rfl) (fun b H F hS hP hH hnm => ?_)
  refine yy_aload_n F d_P_count_0 (n := 1) rfl 0 rfl ?_
  refine yy_get F X.1 X.2.1 g_P_19_P (hP.c6 hc h6) rfl d_P_count_1 (n := 4) rfl ?_
  exact yy_iret F hS ⟨Nat.zero_le _, Nat.zero_le _⟩ rfl d_P_count_4 (⟨_, rfl, rfl, rfl⟩)
set_option maxRecDepth 100000 in
set_option maxHeartbeats 4000000 in
theorem c_G_count {l : Launch} {z : State} {a0 : Array Value} {D : va_G} {ca : kca} (X : kcx l z a0 D ca) {A : kA} {σ : ks} {t c : Nat} (I : iv t σ) (hc : c < k_m σ) (h6 : ¬ k_kd σ c = 6) (h7 : ¬ k_kd σ c = 7) : yy_M l z y_G_count (.code y_G_count b_G_count 1 (some .int)) ({ frames := 0, cells := 0, slots := 0, locals := 0 }) [.ref (a_ad A c)] (ck_at D ca z A σ) (yy_ri (nI (s_ct (k_B σ c)))) := by
  refine yy_body (plainFor_of_name (by decide)) (Nat.le_of_ble_eq_true rfl) (fun b H F hS hP hH hnm => ?_)
  refine yy_aload_n F d_G_count_0 (n := 1) rfl 0 rfl ?_
  refine yy_get F X.1 X.2.1 g_G_12_G (hP.c0 hc h6 h7) rfl d_G_count_1 (n := 4) rfl ?_
  refine yy_get F X.1 X.2.1 g_G_18_S (hP.sc hc).1 rfl d_G_count_4 (n := 7) rfl ?_
  exact yy_iret F hS ⟨Nat.zero_le _, Nat.zero_le _⟩ rfl d_G_count_7 (⟨_, rfl, rfl, rfl⟩)
set_option maxRecDepth 100000 in
set_option maxHeartbeats 4000000 in
theorem c_G_start {l : Launch} {z : State} {a0 : Array Value} {D : va_G} {ca : kca} (X : kcx l z a0 D ca) {A : kA} {σ : ks} {t c : Nat} (I : iv t σ) (hc : c < k_m σ) (h6 : ¬ k_kd σ c = 6) (h7 : ¬ k_kd σ c = 7) : yy_M l z y_G_start (.code y_G_start b_G_start 1 (some .int)) ({ frames := 0, cells := 0, slots := 0, locals := 0 }) [.ref (a_ad A c)] (ck_at D ca z A σ) (yy_ri 0) := by
  refine yy_body (plainFor_of_name (by decide)) (Nat.le_of_ble_eq_true rfl) (fun b H F hS hP hH hnm => ?_)
  refine yy_iconst (v := 0) F d_G_start_0 (n := 1) rfl rfl ?_
  exact yy_iret F hS ⟨Nat.zero_le _, Nat.zero_le _⟩ rfl d_G_start_1 (⟨_, rfl, rfl, rfl⟩)
set_option maxRecDepth 100000 in
set_option maxHeartbeats 4000000 in
theorem c_C_isStale {l : Launch} {z : State} {a0 : Array Value} {D : va_G} {ca : kca} (X : kcx l z a0 D ca) {A : kA} {σ : ks} {t c : Nat} (I : iv t σ) (hc : c < k_m σ) (h6 : ¬ k_kd σ c = 6) : yy_M l z y_C_isStale (.code y_C_isStale b_C_isStale 1 (some .boolean)) ({ frames := 0, cells := 0, slots := 0, locals := 0 }) [.ref (a_ad A c)] (ck_at D ca z A σ) (yy_ri (ym_n (k_stale σ c))) := by
  refine yy_body (plainFor_of_name (by decide)) (Nat.le_of_ble_eq_true rfl) (fun b H F hS hP hH hnm => ?_)
  refine yy_iconst (v := 0) F d_C_isStale_0 (n := 1) rfl rfl ?_
  exact yy_zret F hS ⟨Nat.zero_le _, Nat.zero_le _⟩ rfl rfl d_C_isStale_1 (⟨_, rfl, by rw [k_st0 h6]; rfl, rfl⟩)
set_option maxRecDepth 100000 in
set_option maxHeartbeats 4000000 in
theorem c_P_isStale {l : Launch} {z : State} {a0 : Array Value} {D : va_G} {ca : kca} (X : kcx l z a0 D ca) {A : kA} {σ : ks} {t c : Nat} (I : iv t σ) (hc : c < k_m σ) (h6 : k_kd σ c = 6) : yy_M l z y_P_isStale (.code y_P_isStale b_P_isStale 1 (some .boolean)) ({ frames := 0, cells := 0, slots := 0, locals := 0 }) [.ref (a_ad A c)] (ck_at D ca z A σ) (yy_ri (ym_n (k_stale σ c))) := by
  refine yy_body (plainFor_of_name (by decide)) (Nat.le_of_ble_eq_true rfl) (fun b H F hS hP hH hnm => ?_)
  have hse := I.se hc h6
  have hch := I.ch hc
  have hq : nI (k_se σ c) = nI (s_ch (k_B σ c)) ↔ k_se σ c = s_ch (k_B σ c) := nI_eq (by omega) (by omega)
  refine yy_aload_n F d_P_isStale_0 (n := 1) rfl 0 rfl ?_
  refine yy_get F X.1 X.2.1 g_P_27_P (hP.c6 hc h6) rfl d_P_isStale_1 (n := 4) rfl ?_
  refine yy_aload_n F d_P_isStale_4 (n := 5) rfl 0 rfl ?_
  refine yy_get F X.1 X.2.1 g_P_30_P (hP.c6 hc h6) rfl d_P_isStale_5 (n := 8) rfl ?_
  refine yy_get F X.1 X.2.1 g_P_22_S (hP.sc hc).1 rfl d_P_isStale_8 (n := 11) rfl ?_
  refine yy_ic_eq (tgt := 18) F d_P_isStale_11 (n := 14) rfl (by decide) (fun h1 => ?_) (fun h1 => ?_)
  · refine yy_iconst (v := 0) F d_P_isStale_18 (n := 19) rfl rfl ?_
    exact yy_zret F hS ⟨Nat.zero_le _, Nat.zero_le _⟩ rfl rfl d_P_isStale_19 (⟨_, rfl, by simp [k_stale, ym_n, hq.mp h1], rfl⟩)
  · refine yy_iconst (v := 1) F d_P_isStale_14 (n := 15) rfl rfl ?_
    refine yy_goto (tgt := 19) F d_P_isStale_15 (by decide) ?_
    exact yy_zret F hS ⟨Nat.zero_le _, Nat.zero_le _⟩ rfl rfl d_P_isStale_19 (⟨_, rfl, by simp [k_stale, ym_n, h6, mt hq.mpr h1], rfl⟩)
set_option maxRecDepth 100000 in
set_option maxHeartbeats 4000000 in
theorem c_C_covers {l : Launch} {z : State} {a0 : Array Value} {D : va_G} {ca : kca} (X : kcx l z a0 D ca) {A : kA} {σ : ks} {t c : Nat} (I : iv t σ) (hc : c < k_m σ) {key : Int32} (h7 : ¬ k_kd σ c = 7) : yy_M l z y_C_covers (.code y_C_covers b_C_covers 2 (some .boolean)) ({ frames := 0, cells := 0, slots := 0, locals := 0 }) [.ref (a_ad A c), .int key] (ck_at D ca z A σ) (yy_ri (ym_n (k_cov σ c key))) := by
  refine yy_body (plainFor_of_name (by decide)) (Nat.le_of_ble_eq_true rfl) (fun b H F hS hP hH hnm => ?_)
  refine yy_iconst (v := 1) F d_C_covers_0 (n := 1) rfl rfl ?_
  exact yy_zret F hS ⟨Nat.zero_le _, Nat.zero_le _⟩ rfl rfl d_C_covers_1 (⟨_, rfl, by rw [k_cov0 h7]; rfl, rfl⟩)
set_option maxRecDepth 100000 in
set_option maxHeartbeats 4000000 in
theorem c_R_covers {l : Launch} {z : State} {a0 : Array Value} {D : va_G} {ca : kca} (X : kcx l z a0 D ca) {A : kA} {σ : ks} {t c : Nat} (I : iv t σ) (hc : c < k_m σ) {key : Int32} (h7 : k_kd σ c = 7) : yy_M l z y_R_covers (.code y_R_covers b_R_covers 2 (some .boolean)) ({ frames := 0, cells := 0, slots := 0, locals := 0 }) [.ref (a_ad A c), .int key] (ck_at D ca z A σ) (yy_ri (ym_n (k_cov σ c key))) := by
  refine yy_body (plainFor_of_name (by decide)) (Nat.le_of_ble_eq_true rfl) (fun b H F hS hP hH hnm => ?_)
  refine yy_iload_n F d_R_covers_0 (n := 1) rfl 1 rfl ?_
  refine yy_aload_n F d_R_covers_1 (n := 2) rfl 0 rfl ?_
  refine yy_get F X.1 X.2.1 g_R_9_R (hP.c7 hc h7) rfl d_R_covers_2 (n := 5) rfl ?_
  refine yy_ic_lt (tgt := 20) F d_R_covers_5 (n := 8) rfl (by decide) (fun h1 => ?_) (fun h1 => ?_)
  · refine yy_iconst (v := 0) F d_R_covers_20 (n := 21) rfl rfl ?_
    exact yy_zret F hS ⟨Nat.zero_le _, Nat.zero_le _⟩ rfl rfl d_R_covers_21 (⟨_, rfl, by simp [k_cov, ym_n, h7, Int32.not_le.mpr h1], rfl⟩)
  · refine yy_iload_n F d_R_covers_8 (n := 9) rfl 1 rfl ?_
    refine yy_aload_n F d_R_covers_9 (n := 10) rfl 0 rfl ?_
    refine yy_get F X.1 X.2.1 g_R_15_R (hP.c7 hc h7) rfl d_R_covers_10 (n := 13) rfl ?_
    refine yy_ic_gt (tgt := 20) F d_R_covers_13 (n := 16) rfl (by decide) (fun h2 => ?_) (fun h2 => ?_)
    · refine yy_iconst (v := 0) F d_R_covers_20 (n := 21) rfl rfl ?_
      exact yy_zret F hS ⟨Nat.zero_le _, Nat.zero_le _⟩ rfl rfl d_R_covers_21 (⟨_, rfl, by simp [k_cov, ym_n, h7, Int32.not_le.mpr h2], rfl⟩)
    · refine yy_iconst (v := 1) F d_R_covers_16 (n := 17) rfl rfl ?_
      refine yy_goto (tgt := 21) F d_R_covers_17 (by decide) ?_
      exact yy_zret F hS ⟨Nat.zero_le _, Nat.zero_le _⟩ rfl rfl d_R_covers_21 (⟨_, rfl, by simp [k_cov, ym_n, h7, Int32.not_lt.mp h1, Int32.not_lt.mp h2], rfl⟩)
set_option maxRecDepth 100000 in
set_option maxHeartbeats 4000000 in
theorem c_C_isList {l : Launch} {z : State} {a0 : Array Value} {D : va_G} {ca : kca} (X : kcx l z a0 D ca) {A : kA} {σ : ks} {t c : Nat} (I : iv t σ) (hc : c < k_m σ)  : yy_M l z y_C_isList (.code y_C_isList b_C_isList 1 (some .boolean)) ({ frames := 0, cells := 0, slots := 0, locals := 0 }) [.ref (a_ad A c)] (ck_at D ca z A σ) (yy_ri (ym_n (k_isl (k_kd σ c)))) := by
  refine yy_body (plainFor_of_name (by decide)) (Nat.le_of_ble_eq_true rfl) (fun b H F hS hP hH hnm => ?_)
  refine yy_aload_n F d_C_isList_0 (n := 1) rfl 0 rfl ?_
  refine cr_kind F X g_C_9_G g_C_9_P g_C_9_R hP hc d_C_isList_1 (n := 4) rfl ?_
  refine yy_if_eq (tgt := 24) F d_C_isList_4 (n := 7) rfl (by decide) (fun hb_1 => ?_) (fun hb_1 => ?_)
  · refine yy_iconst (v := 1) F d_C_isList_24 (n := 25) rfl rfl ?_
    refine yy_goto (tgt := 29) F d_C_isList_25 (by decide) ?_
    exact yy_zret F hS ⟨Nat.zero_le _, Nat.zero_le _⟩ rfl rfl d_C_isList_29 (⟨_, rfl, by simp [k_isl, ym_n, hb_1], rfl⟩)
  · refine yy_aload_n F d_C_isList_7 (n := 8) rfl 0 rfl ?_
    refine cr_kind F X g_C_9_G g_C_9_P g_C_9_R hP hc d_C_isList_8 (n := 11) rfl ?_
    refine yy_iconst (v := 1) F d_C_isList_11 (n := 12) rfl rfl ?_
    refine yy_ic_eq (tgt := 24) F d_C_isList_12 (n := 15) rfl (by decide) (fun hb_2 => ?_) (fun hb_2 => ?_)
    · refine yy_iconst (v := 1) F d_C_isList_24 (n := 25) rfl rfl ?_
      refine yy_goto (tgt := 29) F d_C_isList_25 (by decide) ?_
      exact yy_zret F hS ⟨Nat.zero_le _, Nat.zero_le _⟩ rfl rfl d_C_isList_29 (⟨_, rfl, by simp [k_isl, ym_n, hb_1, hb_2], rfl⟩)
    · refine yy_aload_n F d_C_isList_15 (n := 16) rfl 0 rfl ?_
      refine cr_kind F X g_C_9_G g_C_9_P g_C_9_R hP hc d_C_isList_16 (n := 19) rfl ?_
      refine yy_bipush (v := 6) F d_C_isList_19 (n := 21) rfl rfl ?_
      refine yy_ic_ne (tgt := 28) F d_C_isList_21 (n := 24) rfl (by decide) (fun hb_3 => ?_) (fun hb_3 => ?_)
      · refine yy_iconst (v := 0) F d_C_isList_28 (n := 29) rfl rfl ?_
        exact yy_zret F hS ⟨Nat.zero_le _, Nat.zero_le _⟩ rfl rfl d_C_isList_29 (⟨_, rfl, by simp [k_isl, ym_n, hb_1, hb_2, hb_3], rfl⟩)
      · refine yy_iconst (v := 1) F d_C_isList_24 (n := 25) rfl rfl ?_
        refine yy_goto (tgt := 29) F d_C_isList_25 (by decide) ?_
        exact yy_zret F hS ⟨Nat.zero_le _, Nat.zero_le _⟩ rfl rfl d_C_isList_29 (⟨_, rfl, by simp [k_isl, ym_n, hb_1, hb_2, hb_3], rfl⟩)
set_option maxRecDepth 100000 in
set_option maxHeartbeats 4000000 in
theorem c_C_isHashed {l : Launch} {z : State} {a0 : Array Value} {D : va_G} {ca : kca} (X : kcx l z a0 D ca) {A : kA} {σ : ks} {t c : Nat} (I : iv t σ) (hc : c < k_m σ)  : yy_M l z y_C_isHashed (.code y_C_isHashed b_C_isHashed 1 (some .boolean)) ({ frames := 0, cells := 0, slots := 0, locals := 0 }) [.ref (a_ad A c)] (ck_at D ca z A σ) (yy_ri (ym_n (k_ish (k_kd σ c)))) := by
  refine yy_body (plainFor_of_name (by decide)) (Nat.le_of_ble_eq_true rfl) (fun b H F hS hP hH hnm => ?_)
  refine yy_aload_n F d_C_isHashed_0 (n := 1) rfl 0 rfl ?_
  refine cr_kind F X g_C_9_G g_C_9_P g_C_9_R hP hc d_C_isHashed_1 (n := 4) rfl ?_
  refine yy_iconst (v := 2) F d_C_isHashed_4 (n := 5) rfl rfl ?_
  refine yy_ic_eq (tgt := 16) F d_C_isHashed_5 (n := 8) rfl (by decide) (fun hb_1 => ?_) (fun hb_1 => ?_)
  · refine yy_iconst (v := 1) F d_C_isHashed_16 (n := 17) rfl rfl ?_
    refine yy_goto (tgt := 21) F d_C_isHashed_17 (by decide) ?_
    exact yy_zret F hS ⟨Nat.zero_le _, Nat.zero_le _⟩ rfl rfl d_C_isHashed_21 (⟨_, rfl, by simp [k_ish, ym_n, hb_1], rfl⟩)
  · refine yy_aload_n F d_C_isHashed_8 (n := 9) rfl 0 rfl ?_
    refine cr_kind F X g_C_9_G g_C_9_P g_C_9_R hP hc d_C_isHashed_9 (n := 12) rfl ?_
    refine yy_iconst (v := 3) F d_C_isHashed_12 (n := 13) rfl rfl ?_
    refine yy_ic_ne (tgt := 20) F d_C_isHashed_13 (n := 16) rfl (by decide) (fun hb_2 => ?_) (fun hb_2 => ?_)
    · refine yy_iconst (v := 0) F d_C_isHashed_20 (n := 21) rfl rfl ?_
      exact yy_zret F hS ⟨Nat.zero_le _, Nat.zero_le _⟩ rfl rfl d_C_isHashed_21 (⟨_, rfl, by simp [k_ish, ym_n, hb_1, hb_2], rfl⟩)
    · refine yy_iconst (v := 1) F d_C_isHashed_16 (n := 17) rfl rfl ?_
      refine yy_goto (tgt := 21) F d_C_isHashed_17 (by decide) ?_
      exact yy_zret F hS ⟨Nat.zero_le _, Nat.zero_le _⟩ rfl rfl d_C_isHashed_21 (⟨_, rfl, by simp [k_ish, ym_n, hb_1, hb_2], rfl⟩)
set_option maxRecDepth 100000 in
set_option maxHeartbeats 4000000 in
theorem c_C_isSorted {l : Launch} {z : State} {a0 : Array Value} {D : va_G} {ca : kca} (X : kcx l z a0 D ca) {A : kA} {σ : ks} {t c : Nat} (I : iv t σ) (hc : c < k_m σ)  : yy_M l z y_C_isSorted (.code y_C_isSorted b_C_isSorted 1 (some .boolean)) ({ frames := 0, cells := 0, slots := 0, locals := 0 }) [.ref (a_ad A c)] (ck_at D ca z A σ) (yy_ri (ym_n (k_iss (k_kd σ c)))) := by
  refine yy_body (plainFor_of_name (by decide)) (Nat.le_of_ble_eq_true rfl) (fun b H F hS hP hH hnm => ?_)
  refine yy_aload_n F d_C_isSorted_0 (n := 1) rfl 0 rfl ?_
  refine cr_kind F X g_C_9_G g_C_9_P g_C_9_R hP hc d_C_isSorted_1 (n := 4) rfl ?_
  refine yy_iconst (v := 4) F d_C_isSorted_4 (n := 5) rfl rfl ?_
  refine yy_ic_eq (tgt := 17) F d_C_isSorted_5 (n := 8) rfl (by decide) (fun hb_1 => ?_) (fun hb_1 => ?_)
  · refine yy_iconst (v := 1) F d_C_isSorted_17 (n := 18) rfl rfl ?_
    refine yy_goto (tgt := 22) F d_C_isSorted_18 (by decide) ?_
    exact yy_zret F hS ⟨Nat.zero_le _, Nat.zero_le _⟩ rfl rfl d_C_isSorted_22 (⟨_, rfl, by simp [k_iss, ym_n, hb_1], rfl⟩)
  · refine yy_aload_n F d_C_isSorted_8 (n := 9) rfl 0 rfl ?_
    refine cr_kind F X g_C_9_G g_C_9_P g_C_9_R hP hc d_C_isSorted_9 (n := 12) rfl ?_
    refine yy_bipush (v := 7) F d_C_isSorted_12 (n := 14) rfl rfl ?_
    refine yy_ic_ne (tgt := 21) F d_C_isSorted_14 (n := 17) rfl (by decide) (fun hb_2 => ?_) (fun hb_2 => ?_)
    · refine yy_iconst (v := 0) F d_C_isSorted_21 (n := 22) rfl rfl ?_
      exact yy_zret F hS ⟨Nat.zero_le _, Nat.zero_le _⟩ rfl rfl d_C_isSorted_22 (⟨_, rfl, by simp [k_iss, ym_n, hb_1, hb_2], rfl⟩)
    · refine yy_iconst (v := 1) F d_C_isSorted_17 (n := 18) rfl rfl ?_
      refine yy_goto (tgt := 22) F d_C_isSorted_18 (by decide) ?_
      exact yy_zret F hS ⟨Nat.zero_le _, Nat.zero_le _⟩ rfl rfl d_C_isSorted_22 (⟨_, rfl, by simp [k_iss, ym_n, hb_1, hb_2], rfl⟩)
set_option maxRecDepth 100000 in
set_option maxHeartbeats 4000000 in
theorem c_C_isMap {l : Launch} {z : State} {a0 : Array Value} {D : va_G} {ca : kca} (X : kcx l z a0 D ca) {A : kA} {σ : ks} {t c : Nat} (I : iv t σ) (hc : c < k_m σ)  : yy_M l z y_C_isMap (.code y_C_isMap b_C_isMap 1 (some .boolean)) ({ frames := 1, cells := 0, slots := 0, locals := 20 }) [.ref (a_ad A c)] (ck_at D ca z A σ) (yy_ri (ym_n (k_ish (k_kd σ c) || k_iss (k_kd σ c)))) := by
  refine yy_body (plainFor_of_name (by decide)) (Nat.le_of_ble_eq_true rfl) (fun b H F hS hP hH hnm => ?_)
  refine yy_aload_n F d_C_isMap_0 (n := 1) rfl 0 rfl ?_
  refine yy_cri (w := (ym_n (k_ish (k_kd σ c)))) F hS (c_C_isHashed (A := A) (σ := σ) (c := c) X I hc) (yy_Bc F X.1 q_594 q_9) (yy_invC (nA := 0) (x := y_C_isHashed) F X hP hc q_588 q_590 (k_dec X q_589 q_594) (k_sel q_593 q_591 q_592 σ c) q_589 ⟨by decide, by decide, by decide +kernel⟩ rfl d_C_isMap_1) d_C_isMap_1 (n := 4) rfl (by simp [Value.category]) ⟨by decide, by decide⟩ ⟨Nat.zero_le _, Nat.zero_le _⟩ ⟨rfl, rfl⟩ hP rfl (fun _ hS_1 => ?_)
  cases hb1 : k_ish (k_kd σ c)
  · refine yy_if_ne_f (tgt := 14) F d_C_isMap_4 (n := 7) rfl (by decide) rfl ?_
    refine yy_aload_n F d_C_isMap_7 (n := 8) rfl 0 rfl ?_
    refine yy_cri (w := (ym_n (k_iss (k_kd σ c)))) F hS_1 (c_C_isSorted (A := A) (σ := σ) (c := c) X I hc) (yy_Bc F X.1 q_267 q_9) (yy_invC (nA := 0) (x := y_C_isSorted) F X hP hc q_595 q_263 (k_dec X q_262 q_267) (k_sel q_266 q_264 q_265 σ c) q_262 ⟨by decide, by decide, by decide +kernel⟩ rfl d_C_isMap_8) d_C_isMap_8 (n := 11) rfl (by simp [Value.category]) ⟨by decide, by decide⟩ ⟨Nat.zero_le _, Nat.zero_le _⟩ ⟨rfl, rfl⟩ hP rfl (fun _ hS_2 => ?_)
    cases hb2 : k_iss (k_kd σ c)
    · refine yy_if_eq_t (tgt := 18) F d_C_isMap_11 (by decide) rfl ?_
      refine yy_iconst (v := 0) F d_C_isMap_18 (n := 19) rfl rfl ?_
      exact yy_zret F hS_2 ⟨Nat.zero_le _, Nat.zero_le _⟩ rfl rfl d_C_isMap_19 (⟨_, rfl, by rw [hb1, hb2]; rfl, rfl⟩)
    · refine yy_if_eq_f (tgt := 18) F d_C_isMap_11 (n := 14) rfl (by decide) (by decide) ?_
      refine yy_iconst (v := 1) F d_C_isMap_14 (n := 15) rfl rfl ?_
      refine yy_goto (tgt := 19) F d_C_isMap_15 (by decide) ?_
      exact yy_zret F hS_2 ⟨Nat.zero_le _, Nat.zero_le _⟩ rfl rfl d_C_isMap_19 (⟨_, rfl, by rw [hb1, hb2]; rfl, rfl⟩)
  · refine yy_if_ne_t (tgt := 14) F d_C_isMap_4 (by decide) (by decide) ?_
    refine yy_iconst (v := 1) F d_C_isMap_14 (n := 15) rfl rfl ?_
    refine yy_goto (tgt := 19) F d_C_isMap_15 (by decide) ?_
    exact yy_zret F hS_1 ⟨Nat.zero_le _, Nat.zero_le _⟩ rfl rfl d_C_isMap_19 (⟨_, rfl, by rw [hb1]; rfl, rfl⟩)
set_option maxRecDepth 100000 in
set_option maxHeartbeats 4000000 in
theorem c_R_start {l : Launch} {z : State} {a0 : Array Value} {D : va_G} {ca : kca} (X : kcx l z a0 D ca) {A : kA} {σ : ks} {t c : Nat} (I : iv t σ) (hc : c < k_m σ) (h7 : k_kd σ c = 7) : yy_M l z y_R_start (.code y_R_start b_R_start 1 (some .int)) ({ frames := 1, cells := 0, slots := 0, locals := 24 }) [.ref (a_ad A c)] (ck_at D ca z A σ) (yy_ri (nI (k_start σ c))) := by
  refine yy_body (plainFor_of_name (by decide)) (Nat.le_of_ble_eq_true rfl) (fun b H F hS hP hH hnm => ?_)
  refine yy_aload_n F d_R_start_0 (n := 1) rfl 0 rfl ?_
  refine yy_get F X.1 X.2.1 g_R_18_R (hP.c7 hc h7) rfl d_R_start_1 (n := 4) rfl ?_
  refine yy_aload_n F d_R_start_4 (n := 5) rfl 0 rfl ?_
  refine yy_get F X.1 X.2.1 g_R_9_R (hP.c7 hc h7) rfl d_R_start_5 (n := 8) rfl ?_
  refine yy_iconst (v := 0) F d_R_start_8 (n := 9) rfl rfl ?_
  refine yy_cri (w := (nI (k_start σ c))) F hS (c_S_placesBefore (x := k_lo σ c) (e := 0) X (I.ct hc)) (yy_Bc F X.1 q_324 q_11) (yy_invV (nA := 2) (C := R_S) (bytes := b_S_placesBefore) (maxL := 5) (retY := (some .int)) F X.1 q_321 q_322 q_323 q_324 ⟨by decide, by decide, by decide +kernel⟩ (yy_recv F.N X.2.1 (ci := 0) rfl (hP.sc hc).1) rfl d_R_start_9) d_R_start_9 (n := 12) rfl (by simp [Value.category]) ⟨by decide, by decide⟩ ⟨Nat.le_refl _, Nat.le_refl _⟩ ⟨rfl, rfl⟩ (hP.sc hc) (by rw [k_start7 h7]) (fun _ hS_1 => ?_)
  exact yy_iret F hS_1 ⟨Nat.zero_le _, Nat.zero_le _⟩ rfl d_R_start_12 (⟨_, rfl, rfl, rfl⟩)
set_option maxRecDepth 100000 in
set_option maxHeartbeats 4000000 in
theorem c_R_count {l : Launch} {z : State} {a0 : Array Value} {D : va_G} {ca : kca} (X : kcx l z a0 D ca) {A : kA} {σ : ks} {t c : Nat} (I : iv t σ) (hc : c < k_m σ) (h7 : k_kd σ c = 7) : yy_M l z y_R_count (.code y_R_count b_R_count 1 (some .int)) ({ frames := 2, cells := 0, slots := 0, locals := 44 }) [.ref (a_ad A c)] (ck_at D ca z A σ) (yy_ri (nI (k_size σ c))) := by
  refine yy_body (plainFor_of_name (by decide)) (Nat.le_of_ble_eq_true rfl) (fun b H F hS hP hH hnm => ?_)
  refine yy_iconst (v := 0) F d_R_count_0 (n := 1) rfl rfl ?_
  refine yy_aload_n F d_R_count_1 (n := 2) rfl 0 rfl ?_
  refine yy_get F X.1 X.2.1 g_R_18_R (hP.c7 hc h7) rfl d_R_count_2 (n := 5) rfl ?_
  refine yy_aload_n F d_R_count_5 (n := 6) rfl 0 rfl ?_
  refine yy_get F X.1 X.2.1 g_R_15_R (hP.c7 hc h7) rfl d_R_count_6 (n := 9) rfl ?_
  refine yy_iconst (v := 1) F d_R_count_9 (n := 10) rfl rfl ?_
  refine yy_cri (w := (nI (ym_cnt (ym_bel (s_nu (k_B σ c)) (k_hi σ c) 1) (s_ct (k_B σ c))))) F hS (c_S_placesBefore (x := k_hi σ c) (e := 1) X (I.ct hc)) (yy_Bc F X.1 q_324 q_11) (yy_invV (nA := 2) (C := R_S) (bytes := b_S_placesBefore) (maxL := 5) (retY := (some .int)) F X.1 q_321 q_322 q_323 q_324 ⟨by decide, by decide, by decide +kernel⟩ (yy_recv F.N X.2.1 (ci := 0) rfl (hP.sc hc).1) rfl d_R_count_10) d_R_count_10 (n := 13) rfl (by simp [Value.category]) ⟨by decide, by decide⟩ ⟨Nat.le_refl _, Nat.le_refl _⟩ ⟨rfl, rfl⟩ (hP.sc hc) rfl (fun _ hS_1 => ?_)
  refine yy_aload_n F d_R_count_13 (n := 14) rfl 0 rfl ?_
  refine yy_cri (w := (nI (ym_cnt (ym_bel (s_nu (k_B σ c)) (k_lo σ c) 0) (s_ct (k_B σ c))))) F hS_1 (c_R_start (A := A) (σ := σ) (c := c) X I hc h7) (yy_Bc F X.1 q_328 q_15) (yy_invV (nA := 0) (C := R_R) (bytes := b_R_start) (maxL := 1) (retY := (some .int)) F X.1 q_325 q_326 q_327 q_328 ⟨by decide, by decide, by decide +kernel⟩ (yy_recv F.N X.2.1 (ci := 3) rfl (hP.c7 hc h7)) rfl d_R_count_14) d_R_count_14 (n := 17) rfl (by simp [Value.category]) ⟨by decide, by decide⟩ ⟨Nat.le_refl _, Nat.le_refl _⟩ ⟨rfl, rfl⟩ hP (by rw [k_start7 h7]) (fun _ hS_2 => ?_)
  refine yy_isub F d_R_count_17 (n := 18) rfl ?_
  refine yy_cri (w := (nI (k_size σ c))) F hS_2 (c_X_max X) (yy_Bc F X.1 q_331 q_14) (yy_invS (nA := 2) (bytes := b_X_max) (maxL := 2) (retY := (some .int)) F X.1 q_329 q_330 q_14 q_331 ⟨by decide, by decide, by decide +kernel⟩ rfl d_R_count_18) d_R_count_18 (n := 21) rfl (by simp [Value.category]) ⟨by decide, by decide⟩ ⟨Nat.le_refl _, Nat.le_refl _⟩ ⟨rfl, rfl⟩ trivial (by rw [k_size7 h7]; exact ym_mx0 (Nat.le_trans (ym_cnt_le _ _) (I.ct hc)) (Nat.le_trans (ym_cnt_le _ _) (I.ct hc))) (fun _ hS_3 => ?_)
  exact yy_iret F hS_3 ⟨Nat.zero_le _, Nat.zero_le _⟩ rfl d_R_count_21 (⟨_, rfl, rfl, rfl⟩)
theorem vd_start {l : Launch} {z : State} {a0 : Array Value} {D : va_G} {ca : kca} {rm : Room} {cc : ByteArray} {nL : Nat} {own : String} {ret : Option FieldType} {hh : List (Nat × Nat × Nat × Nat)} {Post : yy_R → Heap → Prop} {b : yy_T} {H : Heap} {locs : List Loc} {k : Nat × Nat} {pc n idx : Nat} {lv : List (Nat × Value)} {rest : List Value} {A : kA} {σ : ks} {t c : Nat} (F : yy_A l z b rm cc nL own ret hh Post) (X : kcx l z a0 D ca) (I : iv t σ) (hc : c < k_m σ) (P : ck_at D ca z A σ H) (hS : yy_S z H locs) (hl : Cond.methodLink own idx y_C_start ∈ lw_tbl) (hR : 2 ≤ rm.frames ∧ 44 ≤ rm.locals) (hW8 : (rest.map fun v => v.category).sum ≤ 8) (d : decode cc pc = .ok (.invokevirtual idx, 3)) (hn : pc + 3 = n) (hf : k.1 ≤ rm.cells ∧ k.2 ≤ rm.slots)
    (kk : ∀ locs1 : List Loc, yy_S z H locs1 → yy_Y b H locs1 k n lv (.int (nI (k_start σ c)) :: rest)) : yy_Y b H locs k pc lv (.ref (a_ad A c) :: rest) := by
  by_cases h6 : k_kd σ c = 6
  · exact yy_cri (w := nI (k_start σ c)) F hS (c_P_start (A := A) (σ := σ) (c := c) X I hc h6) (yy_Bc F X.1 q_369 q_16) (yy_invC (nA := 0) (x := y_C_start) F X P hc hl q_366 (k_deca X q_365) (by rw [k_cls6 h6]; exact q_367) q_368 ⟨by decide, by decide, by decide +kernel⟩ rfl d) d hn hW8 (by constructor <;> simp <;> omega) hf ⟨rfl, rfl⟩ P (by rw [k_start6 h6]) kk
  · by_cases h7 : k_kd σ c = 7
    · exact yy_cri (w := nI (k_start σ c)) F hS (c_R_start (A := A) (σ := σ) (c := c) X I hc h7) (yy_Bc F X.1 q_328 q_15) (yy_invC (nA := 0) (x := y_C_start) F X P hc hl q_366 (k_deca X q_365) (by rw [k_cls7 h7]; exact q_370) q_326 ⟨by decide, by decide, by decide +kernel⟩ rfl d) d hn hW8 (by constructor <;> simp <;> omega) hf ⟨rfl, rfl⟩ P (rfl) kk
    · exact yy_cri (w := nI (k_start σ c)) F hS (c_G_start (A := A) (σ := σ) (c := c) X I hc h6 h7) (yy_Bc F X.1 q_373 q_10) (yy_invC (nA := 0) (x := y_C_start) F X P hc hl q_366 (k_deca X q_365) (by rw [k_cls0 h6 h7]; exact q_371) q_372 ⟨by decide, by decide, by decide +kernel⟩ rfl d) d hn hW8 (by constructor <;> simp <;> omega) hf ⟨rfl, rfl⟩ P (by rw [k_start0 h6 h7]; rfl) kk
theorem vd_count {l : Launch} {z : State} {a0 : Array Value} {D : va_G} {ca : kca} {rm : Room} {cc : ByteArray} {nL : Nat} {own : String} {ret : Option FieldType} {hh : List (Nat × Nat × Nat × Nat)} {Post : yy_R → Heap → Prop} {b : yy_T} {H : Heap} {locs : List Loc} {k : Nat × Nat} {pc n idx : Nat} {lv : List (Nat × Value)} {rest : List Value} {A : kA} {σ : ks} {t c : Nat} (F : yy_A l z b rm cc nL own ret hh Post) (X : kcx l z a0 D ca) (I : iv t σ) (hc : c < k_m σ) (P : ck_at D ca z A σ H) (hS : yy_S z H locs) (hl : Cond.methodLink own idx y_C_count ∈ lw_tbl) (hR : 3 ≤ rm.frames ∧ 64 ≤ rm.locals) (hW8 : (rest.map fun v => v.category).sum ≤ 8) (d : decode cc pc = .ok (.invokevirtual idx, 3)) (hn : pc + 3 = n) (hf : k.1 ≤ rm.cells ∧ k.2 ≤ rm.slots)
    (kk : ∀ locs1 : List Loc, yy_S z H locs1 → yy_Y b H locs1 k n lv (.int (nI (k_size σ c)) :: rest)) : yy_Y b H locs k pc lv (.ref (a_ad A c) :: rest) := by
  by_cases h6 : k_kd σ c = 6
  · exact yy_cri (w := nI (k_size σ c)) F hS (c_P_count (A := A) (σ := σ) (c := c) X I hc h6) (yy_Bc F X.1 q_317 q_16) (yy_invC (nA := 0) (x := y_C_count) F X P hc hl q_314 (k_deca X q_313) (by rw [k_cls6 h6]; exact q_315) q_316 ⟨by decide, by decide, by decide +kernel⟩ rfl d) d hn hW8 (by constructor <;> simp <;> omega) hf ⟨rfl, rfl⟩ P (by rw [k_size6 h6]) kk
  · by_cases h7 : k_kd σ c = 7
    · exact yy_cri (w := nI (k_size σ c)) F hS (c_R_count (A := A) (σ := σ) (c := c) X I hc h7) (yy_Bc F X.1 q_320 q_15) (yy_invC (nA := 0) (x := y_C_count) F X P hc hl q_314 (k_deca X q_313) (by rw [k_cls7 h7]; exact q_318) q_319 ⟨by decide, by decide, by decide +kernel⟩ rfl d) d hn hW8 (by constructor <;> simp <;> omega) hf ⟨rfl, rfl⟩ P (rfl) kk
    · exact yy_cri (w := nI (k_size σ c)) F hS (c_G_count (A := A) (σ := σ) (c := c) X I hc h6 h7) (yy_Bc F X.1 q_334 q_10) (yy_invC (nA := 0) (x := y_C_count) F X P hc hl q_314 (k_deca X q_313) (by rw [k_cls0 h6 h7]; exact q_332) q_333 ⟨by decide, by decide, by decide +kernel⟩ rfl d) d hn hW8 (by constructor <;> simp <;> omega) hf ⟨rfl, rfl⟩ P (by rw [k_size0 h6 h7]) kk
theorem vd_isStale {l : Launch} {z : State} {a0 : Array Value} {D : va_G} {ca : kca} {rm : Room} {cc : ByteArray} {nL : Nat} {own : String} {ret : Option FieldType} {hh : List (Nat × Nat × Nat × Nat)} {Post : yy_R → Heap → Prop} {b : yy_T} {H : Heap} {locs : List Loc} {k : Nat × Nat} {pc n idx : Nat} {lv : List (Nat × Value)} {rest : List Value} {A : kA} {σ : ks} {t c : Nat} (F : yy_A l z b rm cc nL own ret hh Post) (X : kcx l z a0 D ca) (I : iv t σ) (hc : c < k_m σ) (P : ck_at D ca z A σ H) (hS : yy_S z H locs) (hl : Cond.methodLink own idx y_C_isStale ∈ lw_tbl) (hR : 1 ≤ rm.frames ∧ 20 ≤ rm.locals) (hW8 : (rest.map fun v => v.category).sum ≤ 8) (d : decode cc pc = .ok (.invokevirtual idx, 3)) (hn : pc + 3 = n) (hf : k.1 ≤ rm.cells ∧ k.2 ≤ rm.slots)
    (kk : ∀ locs1 : List Loc, yy_S z H locs1 → yy_Y b H locs1 k n lv (.int (ym_n (k_stale σ c)) :: rest)) : yy_Y b H locs k pc lv (.ref (a_ad A c) :: rest) := by
  by_cases h6 : k_kd σ c = 6
  · exact yy_cri (w := ym_n (k_stale σ c)) F hS (c_P_isStale (A := A) (σ := σ) (c := c) X I hc h6) (yy_Bc F X.1 q_295 q_16) (yy_invC (nA := 0) (x := y_C_isStale) F X P hc hl q_292 (k_dec X q_291 q_298) (by rw [k_cls6 h6]; exact q_293) q_294 ⟨by decide, by decide, by decide +kernel⟩ rfl d) d hn hW8 (by constructor <;> simp <;> omega) hf ⟨rfl, rfl⟩ P (rfl) kk
  · by_cases h7 : k_kd σ c = 7
    · exact yy_cri (w := ym_n (k_stale σ c)) F hS (c_C_isStale (A := A) (σ := σ) (c := c) X I hc h6) (yy_Bc F X.1 q_298 q_9) (yy_invC (nA := 0) (x := y_C_isStale) F X P hc hl q_292 (k_dec X q_291 q_298) (by rw [k_cls7 h7]; exact q_296) q_291 ⟨by decide, by decide, by decide +kernel⟩ rfl d) d hn hW8 (by constructor <;> simp <;> omega) hf ⟨rfl, rfl⟩ P (rfl) kk
    · exact yy_cri (w := ym_n (k_stale σ c)) F hS (c_C_isStale (A := A) (σ := σ) (c := c) X I hc h6) (yy_Bc F X.1 q_298 q_9) (yy_invC (nA := 0) (x := y_C_isStale) F X P hc hl q_292 (k_dec X q_291 q_298) (by rw [k_cls0 h6 h7]; exact q_297) q_291 ⟨by decide, by decide, by decide +kernel⟩ rfl d) d hn hW8 (by constructor <;> simp <;> omega) hf ⟨rfl, rfl⟩ P (rfl) kk
theorem vd_covers {l : Launch} {z : State} {a0 : Array Value} {D : va_G} {ca : kca} {rm : Room} {cc : ByteArray} {nL : Nat} {own : String} {ret : Option FieldType} {hh : List (Nat × Nat × Nat × Nat)} {Post : yy_R → Heap → Prop} {b : yy_T} {H : Heap} {locs : List Loc} {k : Nat × Nat} {pc n idx : Nat} {lv : List (Nat × Value)} {rest : List Value} {A : kA} {σ : ks} {t c : Nat} {key : Int32} (F : yy_A l z b rm cc nL own ret hh Post) (X : kcx l z a0 D ca) (I : iv t σ) (hc : c < k_m σ) (P : ck_at D ca z A σ H) (hS : yy_S z H locs) (hl : Cond.methodLink own idx y_C_covers ∈ lw_tbl) (hR : 1 ≤ rm.frames ∧ 21 ≤ rm.locals) (hW8 : (rest.map fun v => v.category).sum ≤ 8) (d : decode cc pc = .ok (.invokevirtual idx, 3)) (hn : pc + 3 = n) (hf : k.1 ≤ rm.cells ∧ k.2 ≤ rm.slots)
    (kk : ∀ locs1 : List Loc, yy_S z H locs1 → yy_Y b H locs1 k n lv (.int (ym_n (k_cov σ c key)) :: rest)) : yy_Y b H locs k pc lv (.int key :: .ref (a_ad A c) :: rest) := by
  by_cases h6 : k_kd σ c = 6
  · exact yy_cri (w := ym_n (k_cov σ c key)) F hS (c_C_covers (A := A) (σ := σ) (c := c) (key := key) X I hc (fun h => absurd (h6.symm.trans h) (by decide))) (yy_Bc F X.1 q_607 q_9) (yy_invC (nA := 1) (x := y_C_covers) F X P hc hl q_601 (k_dec X q_600 q_607) (by rw [k_cls6 h6]; exact q_602) q_600 ⟨by decide, by decide, by decide +kernel⟩ rfl d) d hn hW8 (by constructor <;> simp <;> omega) hf ⟨rfl, rfl⟩ P (rfl) kk
  · by_cases h7 : k_kd σ c = 7
    · exact yy_cri (w := ym_n (k_cov σ c key)) F hS (c_R_covers (A := A) (σ := σ) (c := c) (key := key) X I hc h7) (yy_Bc F X.1 q_605 q_15) (yy_invC (nA := 1) (x := y_C_covers) F X P hc hl q_601 (k_dec X q_600 q_607) (by rw [k_cls7 h7]; exact q_603) q_604 ⟨by decide, by decide, by decide +kernel⟩ rfl d) d hn hW8 (by constructor <;> simp <;> omega) hf ⟨rfl, rfl⟩ P (rfl) kk
    · exact yy_cri (w := ym_n (k_cov σ c key)) F hS (c_C_covers (A := A) (σ := σ) (c := c) (key := key) X I hc h7) (yy_Bc F X.1 q_607 q_9) (yy_invC (nA := 1) (x := y_C_covers) F X P hc hl q_601 (k_dec X q_600 q_607) (by rw [k_cls0 h6 h7]; exact q_606) q_600 ⟨by decide, by decide, by decide +kernel⟩ rfl d) d hn hW8 (by constructor <;> simp <;> omega) hf ⟨rfl, rfl⟩ P (rfl) kk
end
section
/-! PART C2: places of a container -/
/-- the first place of a key from i on, within d steps -/
def f_pos (f : Nat → Int32) (key : Int32) : Nat → Nat → Option Nat
  | 0, _ => none
  | d + 1, i => if f i = key then some i else f_pos f key d (i + 1)
/-- a place as a number, none as -1 -/
def o_n (o : Option Nat) : Int32 := match o with | none => -1 | some j => nI j
theorem ym_fi_pos (f : Nat → Int32) (key : Int32) : ∀ d i : Nat, ym_fi f key d i = o_n (f_pos f key d i)
  | 0, _ => rfl
  | d + 1, i => by
    unfold ym_fi f_pos
    split
    · rfl
    · exact ym_fi_pos f key d (i + 1)
theorem f_pos_some {f : Nat → Int32} {key : Int32} : ∀ {d i j : Nat}, f_pos f key d i = some j → i ≤ j ∧ j < i + d ∧ f j = key ∧ ∀ q, i ≤ q → q < j → ¬ f q = key
  | 0, _, _, h => by cases h
  | d + 1, i, j, h => by
    unfold f_pos at h
    split at h
    · cases h
      exact ⟨Nat.le_refl _, by omega, by assumption, fun q h1 h2 => by omega⟩
    · obtain ⟨a, b, e, g⟩ := f_pos_some h
      refine ⟨by omega, by omega, e, fun q h1 h2 => ?_⟩
      by_cases hq : q = i
      · subst hq
        assumption
      · exact g q (by omega) h2
theorem f_pos_none {f : Nat → Int32} {key : Int32} : ∀ {d i : Nat}, f_pos f key d i = none → ∀ q, i ≤ q → q < i + d → ¬ f q = key
  | 0, _, _ => fun q h1 h2 => by omega
  | d + 1, i, h => by
    unfold f_pos at h
    split at h
    · cases h
    · intro q h1 h2
      by_cases hq : q = i
      · subst hq
        assumption
      · exact f_pos_none h q (by omega) (by omega)
/-- a key's place in its base, if the container shows it -/
def k_at (σ : ks) (c : Nat) (key : Int32) : Option Nat := if k_cov σ c key = true then f_pos (s_nu (k_B σ c)) key (s_ct (k_B σ c)) 0 else none
/-- what placeOf says -/
def k_pl (σ : ks) (c : Nat) (key : Int32) : Int32 := match k_at σ c key with | none => -1 | some p => nI p - nI (k_start σ c)
theorem ym_mid {a b s : Nat} (ha : a ≤ 24) (hb : b ≤ 24) (hs : s ≤ 24) : ym_mx 0 (ym_mn (nI a - nI b) (nI s)) = nI (min (a - b) s) := by
  have e : (nI a - nI b).toInt = (a : Int) - b := by
    rw [Int32.toInt_sub, nI_toInt (by omega), nI_toInt (by omega)]
    apply Int.bmod_eq_of_le <;> omega
  have es := nI_toInt (show s < 2 ^ 31 by omega)
  unfold ym_mx ym_mn
  by_cases h : nI s < nI a - nI b
  · rw [if_pos h]
    rw [Int32.lt_iff_toInt_lt, e, es] at h
    rw [show min (a - b) s = s by omega]
    by_cases h2 : s = 0
    · rw [h2]
      decide
    · rw [if_pos (show (0 : Int32) < nI s from nI_lt (show 0 < s by omega) (by omega))]
  · rw [if_neg h]
    rw [Int32.lt_iff_toInt_lt, e, es] at h
    rw [show min (a - b) s = a - b by omega]
    exact ym_mx0 ha hb
set_option maxRecDepth 100000 in
set_option maxHeartbeats 4000000 in
theorem c_C_isPlace {l : Launch} {z : State} {a0 : Array Value} {D : va_G} {ca : kca} (X : kcx l z a0 D ca) {A : kA} {σ : ks} {t c : Nat} (I : iv t σ) (hc : c < k_m σ) {p : Int32} : yy_M l z y_C_isPlace (.code y_C_isPlace b_C_isPlace 2 (some .boolean)) ({ frames := 3, cells := 0, slots := 0, locals := 64 }) [.ref (a_ad A c), .int p] (ck_at D ca z A σ) (yy_ri (ym_n (ym_inb p (k_size σ c)))) := by
  refine yy_body (plainFor_of_name (by decide)) (Nat.le_of_ble_eq_true rfl) (fun b H F hS hP hH hnm => ?_)
  refine yy_iload_n F d_C_isPlace_0 (n := 1) rfl 1 rfl ?_
  refine yy_if_lt (tgt := 16) F d_C_isPlace_1 (n := 4) rfl (by decide) (fun h1 => ?_) (fun h1 => ?_)
  · refine yy_iconst (v := 0) F d_C_isPlace_16 (n := 17) rfl rfl ?_
    exact yy_zret F hS ⟨Nat.zero_le _, Nat.zero_le _⟩ rfl rfl d_C_isPlace_17 (⟨_, rfl, by simp [ym_inb, ym_n, h1], rfl⟩)
  · refine yy_iload_n F d_C_isPlace_4 (n := 5) rfl 1 rfl ?_
    refine yy_aload_n F d_C_isPlace_5 (n := 6) rfl 0 rfl ?_
    refine vd_count F X I hc hP hS q_426 ⟨by decide, by decide⟩ (by simp [Value.category]) d_C_isPlace_6 (n := 9) rfl ⟨Nat.le_refl _, Nat.le_refl _⟩ (fun _ hS_1 => ?_)
    refine yy_ic_ge (tgt := 16) F d_C_isPlace_9 (n := 12) rfl (by decide) (fun h2 => ?_) (fun h2 => ?_)
    · refine yy_iconst (v := 0) F d_C_isPlace_16 (n := 17) rfl rfl ?_
      exact yy_zret F hS_1 ⟨Nat.zero_le _, Nat.zero_le _⟩ rfl rfl d_C_isPlace_17 (⟨_, rfl, by simp [ym_inb, ym_n, h1, Int32.not_lt.mpr h2], rfl⟩)
    · refine yy_iconst (v := 1) F d_C_isPlace_12 (n := 13) rfl rfl ?_
      refine yy_goto (tgt := 17) F d_C_isPlace_13 (by decide) ?_
      exact yy_zret F hS_1 ⟨Nat.zero_le _, Nat.zero_le _⟩ rfl rfl d_C_isPlace_17 (⟨_, rfl, by simp [ym_inb, ym_n, h1, Int32.not_le.mp h2], rfl⟩)
set_option maxRecDepth 100000 in
set_option maxHeartbeats 4000000 in
theorem c_C_numberAt {l : Launch} {z : State} {a0 : Array Value} {D : va_G} {ca : kca} (X : kcx l z a0 D ca) {A : kA} {σ : ks} {t c : Nat} (I : iv t σ) (hc : c < k_m σ) {x : Int32} {q : Nat} (hq : nI (k_start σ c) + x = nI q) (hq2 : q < s_ct (k_B σ c)) : yy_M l z y_C_numberAt (.code y_C_numberAt b_C_numberAt 2 (some .int)) ({ frames := 2, cells := 0, slots := 0, locals := 44 }) [.ref (a_ad A c), .int x] (ck_at D ca z A σ) (yy_ri (s_nu (k_B σ c) q)) := by
  refine yy_body (plainFor_of_name (by decide)) (Nat.le_of_ble_eq_true rfl) (fun b H F hS hP hH hnm => ?_)
  refine yy_aload_n F d_C_numberAt_0 (n := 1) rfl 0 rfl ?_
  refine cr_store F X g_C_15_G g_C_15_P g_C_15_R hP hc d_C_numberAt_1 (n := 4) rfl ?_
  refine yy_aload_n F d_C_numberAt_4 (n := 5) rfl 0 rfl ?_
  refine vd_start F X I hc hP hS q_453 ⟨by decide, by decide⟩ (by simp [Value.category]) d_C_numberAt_5 (n := 8) rfl ⟨Nat.le_refl _, Nat.le_refl _⟩ (fun _ hS_1 => ?_)
  refine yy_iload_n F d_C_numberAt_8 (n := 9) rfl 1 rfl ?_
  refine yy_iadd F d_C_numberAt_9 (n := 10) rfl ?_
  refine yy_tope (y := (nI q)) hq ?_
  refine yy_cri (w := (s_nu (k_B σ c) q)) F hS_1 (c_S_numberAt (p := nI q) X (I.ct hc)) (yy_Bc F X.1 q_457 q_11) (yy_invV (nA := 1) (C := R_S) (bytes := b_S_numberAt) (maxL := 2) (retY := (some .int)) F X.1 q_454 q_455 q_456 q_457 ⟨by decide, by decide, by decide +kernel⟩ (yy_recv F.N X.2.1 (ci := 0) rfl (hP.sc hc).1) rfl d_C_numberAt_10) d_C_numberAt_10 (n := 13) rfl (by simp [Value.category]) ⟨by decide, by decide⟩ ⟨Nat.le_refl _, Nat.le_refl _⟩ ⟨rfl, rfl⟩ (hP.sc hc) (ym_na hq2 (I.ct hc)) (fun _ hS_2 => ?_)
  exact yy_iret F hS_2 ⟨Nat.zero_le _, Nat.zero_le _⟩ rfl d_C_numberAt_13 (⟨_, rfl, rfl, rfl⟩)
set_option maxRecDepth 100000 in
set_option maxHeartbeats 4000000 in
theorem c_C_valueAt {l : Launch} {z : State} {a0 : Array Value} {D : va_G} {ca : kca} (X : kcx l z a0 D ca) {A : kA} {σ : ks} {t c : Nat} (I : iv t σ) (hc : c < k_m σ) {x : Int32} {q : Nat} (hq : nI (k_start σ c) + x = nI q) (hq2 : q < s_ct (k_B σ c)) : yy_M l z y_C_valueAt (.code y_C_valueAt b_C_valueAt 2 (some .int)) ({ frames := 2, cells := 0, slots := 0, locals := 44 }) [.ref (a_ad A c), .int x] (ck_at D ca z A σ) (yy_ri (s_vl (k_B σ c) q)) := by
  refine yy_body (plainFor_of_name (by decide)) (Nat.le_of_ble_eq_true rfl) (fun b H F hS hP hH hnm => ?_)
  refine yy_aload_n F d_C_valueAt_0 (n := 1) rfl 0 rfl ?_
  refine cr_store F X g_C_15_G g_C_15_P g_C_15_R hP hc d_C_valueAt_1 (n := 4) rfl ?_
  refine yy_aload_n F d_C_valueAt_4 (n := 5) rfl 0 rfl ?_
  refine vd_start F X I hc hP hS q_453 ⟨by decide, by decide⟩ (by simp [Value.category]) d_C_valueAt_5 (n := 8) rfl ⟨Nat.le_refl _, Nat.le_refl _⟩ (fun _ hS_1 => ?_)
  refine yy_iload_n F d_C_valueAt_8 (n := 9) rfl 1 rfl ?_
  refine yy_iadd F d_C_valueAt_9 (n := 10) rfl ?_
  refine yy_tope (y := (nI q)) hq ?_
  refine yy_cri (w := (s_vl (k_B σ c) q)) F hS_1 (c_S_valueAt (p := nI q) X (I.ct hc)) (yy_Bc F X.1 q_657 q_11) (yy_invV (nA := 1) (C := R_S) (bytes := b_S_valueAt) (maxL := 2) (retY := (some .int)) F X.1 q_654 q_655 q_656 q_657 ⟨by decide, by decide, by decide +kernel⟩ (yy_recv F.N X.2.1 (ci := 0) rfl (hP.sc hc).1) rfl d_C_valueAt_10) d_C_valueAt_10 (n := 13) rfl (by simp [Value.category]) ⟨by decide, by decide⟩ ⟨Nat.le_refl _, Nat.le_refl _⟩ ⟨rfl, rfl⟩ (hP.sc hc) (ym_na hq2 (I.ct hc)) (fun _ hS_2 => ?_)
  exact yy_iret F hS_2 ⟨Nat.zero_le _, Nat.zero_le _⟩ rfl d_C_valueAt_13 (⟨_, rfl, rfl, rfl⟩)
set_option maxRecDepth 100000 in
set_option maxHeartbeats 4000000 in
theorem c_C_placeOf {l : Launch} {z : State} {a0 : Array Value} {D : va_G} {ca : kca} (X : kcx l z a0 D ca) {A : kA} {σ : ks} {t c : Nat} (I : iv t σ) (hc : c < k_m σ) {key : Int32} : yy_M l z y_C_placeOf (.code y_C_placeOf b_C_placeOf 2 (some .int)) ({ frames := 2, cells := 0, slots := 0, locals := 44 }) [.ref (a_ad A c), .int key] (ck_at D ca z A σ) (yy_ri (k_pl σ c key)) := by
  refine yy_body (plainFor_of_name (by decide)) (Nat.le_of_ble_eq_true rfl) (fun b H F hS hP hH hnm => ?_)
  have hfp : ym_find (s_nu (k_B σ c)) key (s_ct (k_B σ c)) = o_n (f_pos (s_nu (k_B σ c)) key (s_ct (k_B σ c)) 0) := ym_fi_pos _ _ _ _
  refine yy_aload_n F d_C_placeOf_0 (n := 1) rfl 0 rfl ?_
  refine yy_iload_n F d_C_placeOf_1 (n := 2) rfl 1 rfl ?_
  refine vd_covers F X I hc hP hS q_615 ⟨by decide, by decide⟩ (by simp [Value.category]) d_C_placeOf_2 (n := 5) rfl ⟨Nat.le_refl _, Nat.le_refl _⟩ (fun _ hS_1 => ?_)
  cases hb1 : k_cov σ c key
  · refine yy_if_eq_t (tgt := 36) F d_C_placeOf_5 (by decide) rfl ?_
    refine yy_iconst (v := (-1)) F d_C_placeOf_36 (n := 37) rfl rfl ?_
    exact yy_iret F hS_1 ⟨Nat.zero_le _, Nat.zero_le _⟩ rfl d_C_placeOf_37 (⟨_, rfl, by simp [k_pl, k_at, hb1], rfl⟩)
  · refine yy_if_eq_f (tgt := 36) F d_C_placeOf_5 (n := 8) rfl (by decide) (by decide) ?_
    refine yy_aload_n F d_C_placeOf_8 (n := 9) rfl 0 rfl ?_
    refine cr_store F X g_C_15_G g_C_15_P g_C_15_R hP hc d_C_placeOf_9 (n := 12) rfl ?_
    refine yy_iload_n F d_C_placeOf_12 (n := 13) rfl 1 rfl ?_
    refine yy_cri (w := (o_n (f_pos (s_nu (k_B σ c)) key (s_ct (k_B σ c)) 0))) F hS_1 (c_S_placeOf (key := key) X (I.ct hc)) (yy_Bc F X.1 q_619 q_11) (yy_invV (nA := 1) (C := R_S) (bytes := b_S_placeOf) (maxL := 3) (retY := (some .int)) F X.1 q_616 q_617 q_618 q_619 ⟨by decide, by decide, by decide +kernel⟩ (yy_recv F.N X.2.1 (ci := 0) rfl (hP.sc hc).1) rfl d_C_placeOf_13) d_C_placeOf_13 (n := 16) rfl (by simp [Value.category]) ⟨by decide, by decide⟩ ⟨Nat.le_refl _, Nat.le_refl _⟩ ⟨rfl, rfl⟩ (hP.sc hc) hfp (fun _ hS_2 => ?_)
    refine yy_iconst (v := (-1)) F d_C_placeOf_16 (n := 17) rfl rfl ?_
    cases ho : f_pos (s_nu (k_B σ c)) key (s_ct (k_B σ c)) 0 with
    | none =>
      refine yy_ic_eq_t (tgt := 36) F d_C_placeOf_17 (by decide) rfl ?_
      refine yy_iconst (v := (-1)) F d_C_placeOf_36 (n := 37) rfl rfl ?_
      exact yy_iret F hS_2 ⟨Nat.zero_le _, Nat.zero_le _⟩ rfl d_C_placeOf_37 (⟨_, rfl, by simp [k_pl, k_at, hb1, ho], rfl⟩)
    | some j =>
      have hj := f_pos_some ho
      have h24 := I.ct hc
      refine yy_ic_eq_f (tgt := 36) F d_C_placeOf_17 (n := 20) rfl (by decide) (ym_nm1 (by omega)) ?_
      refine yy_aload_n F d_C_placeOf_20 (n := 21) rfl 0 rfl ?_
      refine cr_store F X g_C_15_G g_C_15_P g_C_15_R hP hc d_C_placeOf_21 (n := 24) rfl ?_
      refine yy_iload_n F d_C_placeOf_24 (n := 25) rfl 1 rfl ?_
      refine yy_cri (w := (nI j)) F hS_2 (c_S_placeOf (key := key) X (I.ct hc)) (yy_Bc F X.1 q_619 q_11) (yy_invV (nA := 1) (C := R_S) (bytes := b_S_placeOf) (maxL := 3) (retY := (some .int)) F X.1 q_616 q_617 q_618 q_619 ⟨by decide, by decide, by decide +kernel⟩ (yy_recv F.N X.2.1 (ci := 0) rfl (hP.sc hc).1) rfl d_C_placeOf_25) d_C_placeOf_25 (n := 28) rfl (by simp [Value.category]) ⟨by decide, by decide⟩ ⟨Nat.le_refl _, Nat.le_refl _⟩ ⟨rfl, rfl⟩ (hP.sc hc) (by rw [hfp, ho]; rfl) (fun _ hS_3 => ?_)
      refine yy_aload_n F d_C_placeOf_28 (n := 29) rfl 0 rfl ?_
      refine vd_start F X I hc hP hS_3 q_453 ⟨by decide, by decide⟩ (by simp [Value.category]) d_C_placeOf_29 (n := 32) rfl ⟨Nat.le_refl _, Nat.le_refl _⟩ (fun _ hS_4 => ?_)
      refine yy_isub F d_C_placeOf_32 (n := 33) rfl ?_
      refine yy_goto (tgt := 37) F d_C_placeOf_33 (by decide) ?_
      exact yy_iret F hS_4 ⟨Nat.zero_le _, Nat.zero_le _⟩ rfl d_C_placeOf_37 (⟨_, rfl, by simp [k_pl, k_at, hb1, ho], rfl⟩)
set_option maxRecDepth 100000 in
set_option maxHeartbeats 4000000 in
theorem c_C_placesBefore {l : Launch} {z : State} {a0 : Array Value} {D : va_G} {ca : kca} (X : kcx l z a0 D ca) {A : kA} {σ : ks} {t c : Nat} (I : iv t σ) (hc : c < k_m σ) {key e : Int32} (hf : k_fr σ c) : yy_M l z y_C_placesBefore (.code y_C_placesBefore b_C_placesBefore 4 (some .int)) ({ frames := 3, cells := 0, slots := 0, locals := 64 }) [.ref (a_ad A c), .int key, .int e] (ck_at D ca z A σ) (yy_ri (nI (min (ym_cnt (ym_bel (s_nu (k_B σ c)) key e) (s_ct (k_B σ c)) - k_start σ c) (k_size σ c)))) := by
  refine yy_body (plainFor_of_name (by decide)) (Nat.le_of_ble_eq_true rfl) (fun b H F hS hP hH hnm => ?_)
  have h24 := I.ct hc
  have hend := I.end hc hf
  have hcn := ym_cnt_le (ym_bel (s_nu (k_B σ c)) key e) (s_ct (k_B σ c))
  refine yy_aload_n F d_C_placesBefore_0 (n := 1) rfl 0 rfl ?_
  refine cr_store F X g_C_15_G g_C_15_P g_C_15_R hP hc d_C_placesBefore_1 (n := 4) rfl ?_
  refine yy_iload_n F d_C_placesBefore_4 (n := 5) rfl 1 rfl ?_
  refine yy_iload_n F d_C_placesBefore_5 (n := 6) rfl 2 rfl ?_
  refine yy_cri (w := (nI (ym_cnt (ym_bel (s_nu (k_B σ c)) key e) (s_ct (k_B σ c))))) F hS (c_S_placesBefore (x := key) (e := e) X (I.ct hc)) (yy_Bc F X.1 q_324 q_11) (yy_invV (nA := 2) (C := R_S) (bytes := b_S_placesBefore) (maxL := 5) (retY := (some .int)) F X.1 q_694 q_322 q_323 q_324 ⟨by decide, by decide, by decide +kernel⟩ (yy_recv F.N X.2.1 (ci := 0) rfl (hP.sc hc).1) rfl d_C_placesBefore_6) d_C_placesBefore_6 (n := 9) rfl (by simp [Value.category]) ⟨by decide, by decide⟩ ⟨Nat.le_refl _, Nat.le_refl _⟩ ⟨rfl, rfl⟩ (hP.sc hc) rfl (fun _ hS_1 => ?_)
  refine yy_aload_n F d_C_placesBefore_9 (n := 10) rfl 0 rfl ?_
  refine vd_start F X I hc hP hS_1 q_453 ⟨by decide, by decide⟩ (by simp [Value.category]) d_C_placesBefore_10 (n := 13) rfl ⟨Nat.le_refl _, Nat.le_refl _⟩ (fun _ hS_2 => ?_)
  refine yy_isub F d_C_placesBefore_13 (n := 14) rfl ?_
  refine yy_istore_n (lv' := [(3, .int ((nI (ym_cnt (ym_bel (s_nu (k_B σ c)) key e) (s_ct (k_B σ c)))) - (nI (k_start σ c)))), (0, .ref (a_ad A c)), (1, .int key), (2, .int e)]) F d_C_placesBefore_14 (n := 15) rfl (by decide) rfl ?_
  refine yy_iconst (v := 0) F d_C_placesBefore_15 (n := 16) rfl rfl ?_
  refine yy_iload_n F d_C_placesBefore_16 (n := 17) rfl 0 rfl ?_
  refine yy_aload_n F d_C_placesBefore_17 (n := 18) rfl 1 rfl ?_
  refine vd_count F X I hc hP hS_2 q_426 ⟨by decide, by decide⟩ (by simp [Value.category]) d_C_placesBefore_18 (n := 21) rfl ⟨Nat.le_refl _, Nat.le_refl _⟩ (fun _ hS_3 => ?_)
  refine yy_cri (w := (ym_mn (nI (ym_cnt (ym_bel (s_nu (k_B σ c)) key e) (s_ct (k_B σ c))) - nI (k_start σ c)) (nI (k_size σ c)))) F hS_3 (c_X_min X) (yy_Bc F X.1 q_343 q_14) (yy_invS (nA := 2) (bytes := b_X_min) (maxL := 2) (retY := (some .int)) F X.1 q_695 q_342 q_14 q_343 ⟨by decide, by decide, by decide +kernel⟩ rfl d_C_placesBefore_21) d_C_placesBefore_21 (n := 24) rfl (by simp [Value.category]) ⟨by decide, by decide⟩ ⟨Nat.le_refl _, Nat.le_refl _⟩ ⟨rfl, rfl⟩ trivial rfl (fun _ hS_4 => ?_)
  refine yy_cri (w := (ym_mx 0 (ym_mn (nI (ym_cnt (ym_bel (s_nu (k_B σ c)) key e) (s_ct (k_B σ c))) - nI (k_start σ c)) (nI (k_size σ c))))) F hS_4 (c_X_max X) (yy_Bc F X.1 q_331 q_14) (yy_invS (nA := 2) (bytes := b_X_max) (maxL := 2) (retY := (some .int)) F X.1 q_696 q_330 q_14 q_331 ⟨by decide, by decide, by decide +kernel⟩ rfl d_C_placesBefore_24) d_C_placesBefore_24 (n := 27) rfl (by simp [Value.category]) ⟨by decide, by decide⟩ ⟨Nat.le_refl _, Nat.le_refl _⟩ ⟨rfl, rfl⟩ trivial rfl (fun _ hS_5 => ?_)
  exact yy_iret F hS_5 ⟨Nat.zero_le _, Nat.zero_le _⟩ rfl d_C_placesBefore_27 (⟨_, rfl, ym_mid (by omega) (by omega) (by omega), rfl⟩)
end
section
/-! PART pic2: changes of a store and of the parts above -/
/-- a store behind a taking out, a bringing in -/
def S_take (s : kS) (q : Nat) : kS := (s_ct s - 1, s_ch s + 1, s_ro s, ym_sh (s_nu s) q (s_ct s - 1), ym_sh (s_vl s) q (s_ct s - 1))
def n_row (kd : Int32) (r n : Nat) : Nat := if kd = 0 ∧ r ≤ n then r + r / 2 else r
def S_bring (kd : Int32) (s : kS) (q : Nat) (x v : Int32) : kS := (s_ct s + 1, s_ch s + 1, n_row kd (s_ro s) (s_ct s), upd (ym_up (s_nu s) q (s_ct s)) q x, upd (ym_up (s_vl s) q (s_ct s)) q v)
def S_nu (s : kS) (q : Nat) (x : Int32) : kS := (s_ct s, s_ch s, s_ro s, upd (s_nu s) q x, s_vl s)
def S_vl (s : kS) (q : Nat) (x : Int32) : kS := (s_ct s, s_ch s, s_ro s, s_nu s, upd (s_vl s) q x)
def S_so (s : kS) (f0 t0 : Nat) (how : Int32) : kS := (s_ct s, s_ch s + 1, s_ro s, ym_so f0 how (t0 - (f0 + 1)) (f0 + 1) (s_nu s), s_vl s)
theorem nI_half {r : Nat} (h : r < 1000) : nI r / 2 = nI (r / 2) := by
  apply Int32.toInt_inj.mp
  rw [Int32.toInt_div_of_ne_right _ _ (by decide), nI_toInt (by omega), nI_toInt (by omega)]
  rfl
theorem n_row_eq {kd : Int32} {r n : Nat} (hr : r ≤ 64) (hn : n ≤ 24) : ym_row kd (nI r) n = nI (n_row kd r n) := by
  unfold ym_row n_row
  by_cases h : kd = 0 ∧ r ≤ n
  · rw [if_pos h, if_pos ⟨h.1, fun q => by have := (nI_ltI (by omega) (by omega)).mp q; omega⟩, nI_half (by omega), nI_add]
  · rw [if_neg h, if_neg (fun q => h ⟨q.1, by have := mt (nI_ltI (show n < 2 ^ 31 by omega) (show r < 2 ^ 31 by omega)).mpr q.2; omega⟩)]
section Pic2
variable {D : va_G} {ca : kca} {z : State} {A : kA} {σ : ks} {H H1 : Heap} {kd : Int32} {s : kS} {x : Nat}
/-- a part's count and seen changes -/
def k_setL (σ : ks) (x m h : Nat) : ks := k_setC σ x (k_kd σ x, k_bs σ x, k_of σ x, k_fs σ x, m, h, k_lo σ x, k_hi σ x)
theorem k_setL_kd (σ : ks) (x m h y : Nat) : k_kd (k_setL σ x m h) y = k_kd σ y ∧ k_bs (k_setL σ x m h) y = k_bs σ y ∧ k_of (k_setL σ x m h) y = k_of σ y ∧ k_fs (k_setL σ x m h) y = k_fs σ y ∧ k_lo (k_setL σ x m h) y = k_lo σ y ∧ k_hi (k_setL σ x m h) y = k_hi σ y := by
  unfold k_setL k_setC k_kd k_bs k_of k_fs k_lo k_hi
  by_cases e : y = x
  · subst e
    dsimp only
    rw [up1_s]
    exact ⟨rfl, rfl, rfl, rfl, rfl, rfl⟩
  · dsimp only
    rw [up1_o _ _ e]
    exact ⟨rfl, rfl, rfl, rfl, rfl, rfl⟩
theorem k_setL_ln (σ : ks) (x m h : Nat) : k_ln (k_setL σ x m h) x = m ∧ k_se (k_setL σ x m h) x = h := by
  unfold k_setL k_setC k_ln k_se
  dsimp only
  rw [up1_s]
  exact ⟨rfl, rfl⟩
theorem k_setL_o (σ : ks) {x y : Nat} (m h : Nat) (e : y ≠ x) : k_C (k_setL σ x m h) y = k_C σ y := by
  unfold k_setL k_setC k_C
  dsimp only
  rw [up1_o _ _ e]
theorem k_setL2 (σ : ks) (x m h m' h' : Nat) : k_setL (k_setL σ x m h) x m' h' = k_setL σ x m' h' := by
  have hk := k_setL_kd σ x m h x
  unfold k_setL at hk ⊢
  rw [hk.1, hk.2.1, hk.2.2.1, hk.2.2.2.1, hk.2.2.2.2.1, hk.2.2.2.2.2]
  unfold k_setC
  dsimp only
  rw [up1_up1]
/-- each count from x upwards can be changed so -/
def k_chn (σ : ks) (g : Nat → Nat) (more : Int32) : Nat → Nat → Prop
  | 0, _ => True
  | n + 1, x => k_kd σ x = 6 → nI (k_ln σ x) + more = nI (g (k_ln σ x)) ∧ k_chn σ g more n (k_of σ x)
theorem k_chn_all {σ : ks} {g : Nat → Nat} {more : Int32} (h : ∀ m : Nat, nI m + more = nI (g m)) : ∀ n x : Nat, k_chn σ g more n x
  | 0, _ => trivial
  | n + 1, x => fun _ => ⟨h _, k_chn_all h n _⟩
/-- a picture's words that kinds and bases alone decide -/
theorem ka_ok.to {σ' : ks} {n n' : Nat} (h : ka_ok z n A σ) (hm : k_m σ' = k_m σ) (hb : ∀ y, k_bs σ' y = k_bs σ y) (hn : n ≤ n') : ka_ok z n' A σ' := by
  obtain ⟨p1, p2, p3, p4, p5, p6, p7, p8, p9⟩ := h
  refine ⟨p1, p2, p3, p4, fun c hc => p5 c (by omega), fun b hb1 hb2 => p6 b (by omega) (by rw [← hb b]; exact hb2), fun q hq => ⟨(p7 q hq).1, Nat.lt_of_lt_of_le (p7 q hq).2 hn⟩, by omega, fun c hc => ?_⟩
  rw [hb c, hb (k_bs σ c), hm]
  exact p9 c (by omega)
theorem ck_at.putL (P : ck_at D ca z A σ H) (hx : x < k_m σ) (h6 : k_kd σ x = 6) {m h : Nat} (O : va_at D kcl (a_ad A x, .inr (2, [.int 6, .ref (a_sa A (k_bs σ x)), va_rf (k_ab A σ x), .int (nI (k_fs σ x)), .int (nI m), .int (nI h)])) H1) (e2 : H1.size = H.size) (e3 : ∀ q : Nat, q ≠ a_ad A x → H1[q]? = H[q]?) : ck_at D ca z A (k_setL σ x m h) H1 ∧ kpA A H H1 := by
  have hox := P.ok.ad hx
  have hm := P.ok.m10
  obtain ⟨p, a1, a2, a3, a4, a5, a6⟩ := P
  have no : ∀ q, a_ow A q ≠ 10 + x → q ≠ a_ad A x := fun q hq h => hq (by rw [h]; exact hox)
  have hk := k_setL_kd σ x m h
  refine ⟨⟨p.to rfl (fun y => (hk y).2.1) (Nat.le_of_eq e2.symm), a1.kept (e3 _ (no _ (by rw [p.1]; omega))), a2.kept (e3 _ (no _ (by rw [p.2.1]; omega))), a3.kept (e3 _ (no _ (by rw [p.2.2.1]; omega))), fun i hi => va_at.kept (a4 i hi) (e3 _ (no _ (by rw [p.wd hi]; omega))), fun c hc => ?_, fun b hb e => ?_⟩, ⟨Nat.le_of_eq e2.symm, fun q _ h0 => e3 q (no q (by omega))⟩⟩
  · have hab : k_ab A (k_setL σ x m h) c = k_ab A σ c := by
      unfold k_ab
      rw [(hk c).2.2.1, (hk (k_of σ c)).1]
    by_cases e : c = x
    · subst e
      unfold co_at k_ci k_fl
      rw [(hk c).1, if_pos h6, if_pos h6, hab, (hk c).2.1, (hk c).2.2.2.1, (k_setL_ln σ c m h).1, (k_setL_ln σ c m h).2]
      exact O
    · have h9 := a5 c hc
      have hC : k_C (k_setL σ x m h) c = k_C σ c := k_setL_o σ m h e
      have hcm : c < k_m σ := hc
      have h8 : co_at D H A (k_setL σ x m h) c := by
        unfold co_at k_ci k_fl k_kd k_bs k_fs k_ln k_se k_lo k_hi
        rw [hab]
        rw [show (k_setL σ x m h).2.1 c = σ.2.1 c from hC]
        exact h9
      exact va_at.kept h8 (e3 _ (no _ (by show a_ow A (a_ad A c) ≠ _; rw [p.ad hcm]; omega)))
  · have hb9 : b < k_m σ := hb
    have e9 : k_bs σ b = b := by rw [← (hk b).2.1]; exact e
    obtain ⟨f1, f2, f3⟩ := p.st hb9 e9
    obtain ⟨o1, o2, o3⟩ := a6 b hb9 e9
    rw [(hk b).1]
    exact ⟨va_at.kept o1 (e3 _ (no _ (by show a_ow A (a_sa A b) ≠ _; omega))), va_at.kept o2 (e3 _ (no _ (by show a_ow A (a_na A b) ≠ _; omega))), va_at.kept o3 (e3 _ (no _ (by show a_ow A (a_va A b) ≠ _; omega)))⟩
/-- the parts from x upwards count otherwise, and have seen h changes -/
def k_fo (g : Nat → Nat) (h : Nat) : Nat → Nat → ks → ks
  | 0, _, σ => σ
  | n + 1, x, σ => if k_kd σ x = 6 then k_fo g h n (k_of σ x) (k_setL σ x (g (k_ln σ x)) h) else σ
end Pic2
section Cr2
variable {l : Launch} {z : State} {b : yy_T} {rm : Room} {cc : ByteArray} {nL : Nat} {own : String} {ret : Option FieldType} {hh : List (Nat × Nat × Nat × Nat)} {Post : yy_R → Heap → Prop}
variable {H : Heap} {locs : List Loc} {k : Nat × Nat} {pc n : Nat} {lv lv' : List (Nat × Value)} {st : List Value}
variable {a0 : Array Value} {D : va_G} {ca : kca} {A : kA} {σ : ks} {x idx : Nat} {v : Int32}
theorem cr_ln (F : yy_A l z b rm cc nL own ret hh Post) (X : kcx l z a0 D ca) (G : yy_G lw_tbl kcl own idx 2 4) (P : ck_at D ca z A σ H) (hx : x < k_m σ) (h6 : k_kd σ x = 6) (hS : yy_S z H locs) {m : Nat} (hv : v = nI m) (d : decode cc pc = .ok (.putfield idx, 3)) (hn : pc + 3 = n)
    (kk : ∀ (H1 : Heap) (locs1 : List Loc), ck_at D ca z A (k_setL σ x m (k_se σ x)) H1 → kpA A H H1 → yy_S z H1 locs1 → yy_Y b H1 locs1 k n lv st) : yy_Y b H locs k pc lv (.int v :: .ref (a_ad A x) :: st) := by
  subst hv
  refine yy_put F X.1 X.2.1 G gt_P (fun C T N h => by cases h; rfl) hS (P.ok.zz (by rw [P.ok.ad hx]; omega)) (P.c6 hx h6) rfl rfl (Nat.le_of_ble_eq_true rfl) d hn (fun H1 locs1 O e2 e3 hS1 => ?_)
  have h9 := P.putL hx h6 O e2 e3
  exact kk H1 locs1 h9.1 h9.2 hS1
theorem cr_se (F : yy_A l z b rm cc nL own ret hh Post) (X : kcx l z a0 D ca) (G : yy_G lw_tbl kcl own idx 2 5) (P : ck_at D ca z A σ H) (hx : x < k_m σ) (h6 : k_kd σ x = 6) (hS : yy_S z H locs) {m : Nat} (hv : v = nI m) (d : decode cc pc = .ok (.putfield idx, 3)) (hn : pc + 3 = n)
    (kk : ∀ (H1 : Heap) (locs1 : List Loc), ck_at D ca z A (k_setL σ x (k_ln σ x) m) H1 → kpA A H H1 → yy_S z H1 locs1 → yy_Y b H1 locs1 k n lv st) : yy_Y b H locs k pc lv (.int v :: .ref (a_ad A x) :: st) := by
  subst hv
  refine yy_put F X.1 X.2.1 G gt_P (fun C T N h => by cases h; rfl) hS (P.ok.zz (by rw [P.ok.ad hx]; omega)) (P.c6 hx h6) rfl rfl (Nat.le_of_ble_eq_true rfl) d hn (fun H1 locs1 O e2 e3 hS1 => ?_)
  have h9 := P.putL hx h6 O e2 e3
  exact kk H1 locs1 h9.1 h9.2 hS1
end Cr2
/-- the second number on the stack, under another name -/
theorem yy_sec {b : yy_T} {H : Heap} {locs : List Loc} {k : Nat × Nat} {pc : Nat} {lv : List (Nat × Value)} {st : List Value} {w : Value} {x y : Int32} (h : x = y) (kk : yy_Y b H locs k pc lv (w :: .int y :: st)) : yy_Y b H locs k pc lv (w :: .int x :: st) := by
  rw [h]
  exact kk
theorem yy_thi {b : yy_T} {H : Heap} {locs : List Loc} {k : Nat × Nat} {pc : Nat} {lv : List (Nat × Value)} {st : List Value} {w w2 : Value} {x y : Int32} (h : x = y) (kk : yy_Y b H locs k pc lv (w :: w2 :: .int y :: st)) : yy_Y b H locs k pc lv (w :: w2 :: .int x :: st) := by
  rw [h]
  exact kk
end
section
/-! PART C3: changes through a container -/
set_option maxRecDepth 100000 in
set_option maxHeartbeats 4000000 in
theorem c_C_changeNumber {l : Launch} {z : State} {a0 : Array Value} {D : va_G} {ca : kca} (X : kcx l z a0 D ca) {A : kA} {σ : ks} {t c : Nat} (I : iv t σ) (hc : c < k_m σ) {x y : Int32} {q : Nat} (hq : nI (k_start σ c) + x = nI q) (hq2 : q < s_ct (k_B σ c)) : yy_M l z y_C_changeNumber (.code y_C_changeNumber b_C_changeNumber 4 (some .int)) ({ frames := 3, cells := 0, slots := 0, locals := 65 }) [.ref (a_ad A c), .int x, .int y] (ck_at D ca z A σ) (yy_pi (fun r H H1 => r = s_nu (k_B σ c) q ∧ ck_at D ca z A (k_setS σ (k_bs σ c) (S_nu (k_B σ c) q y)) H1 ∧ kpA A H H1)) := by
  refine yy_body (plainFor_of_name (by decide)) (Nat.le_of_ble_eq_true rfl) (fun b H F hS hP hH hnm => ?_)
  refine yy_aload_n F d_C_changeNumber_0 (n := 1) rfl 0 rfl ?_
  refine yy_iload_n F d_C_changeNumber_1 (n := 2) rfl 1 rfl ?_
  refine yy_cri (w := (s_nu (k_B σ c) q)) F hS (c_C_numberAt (A := A) (σ := σ) (c := c) X I hc hq hq2) (yy_Bc F X.1 q_452 q_9) (yy_invC (nA := 1) (x := y_C_numberAt) F X hP hc q_476 q_448 (k_dec X q_447 q_452) (k_sel q_451 q_449 q_450 σ c) q_447 ⟨by decide, by decide, by decide +kernel⟩ rfl d_C_changeNumber_2) d_C_changeNumber_2 (n := 5) rfl (by simp [Value.category]) ⟨by decide, by decide⟩ ⟨Nat.zero_le _, Nat.zero_le _⟩ ⟨rfl, rfl⟩ hP rfl (fun _ hS_1 => ?_)
  refine yy_istore_n (lv' := [(3, .int (s_nu (k_B σ c) q)), (0, .ref (a_ad A c)), (1, .int x), (2, .int y)]) F d_C_changeNumber_5 (n := 6) rfl (by decide) rfl ?_
  refine yy_aload_n F d_C_changeNumber_6 (n := 7) rfl 1 rfl ?_
  refine cr_store F X g_C_15_G g_C_15_P g_C_15_R hP hc d_C_changeNumber_7 (n := 10) rfl ?_
  refine yy_aload_n F d_C_changeNumber_10 (n := 11) rfl 1 rfl ?_
  refine vd_start F X I hc hP hS_1 q_453 ⟨by decide, by decide⟩ (by simp [Value.category]) d_C_changeNumber_11 (n := 14) rfl ⟨Nat.le_refl _, Nat.le_refl _⟩ (fun _ hS_2 => ?_)
  refine yy_iload_n F d_C_changeNumber_14 (n := 15) rfl 2 rfl ?_
  refine yy_iadd F d_C_changeNumber_15 (n := 16) rfl ?_
  refine yy_iload_n F d_C_changeNumber_16 (n := 17) rfl 3 rfl ?_
  refine yy_sec (y := nI q) hq ?_
  refine yy_cv F hS_2 (c_S_setNumber (j := q) (x := y) X (I.ct hc) (hP.sok hc) hq2) (yy_Bc F X.1 q_480 q_11) (yy_invV (nA := 2) (C := R_S) (bytes := b_S_setNumber) (maxL := 3) (retY := none) F X.1 q_477 q_478 q_479 q_480 ⟨by decide, by decide, by decide +kernel⟩ (yy_recv F.N X.2.1 (ci := 0) rfl (hP.sc hc).1) rfl d_C_changeNumber_17) d_C_changeNumber_17 (n := 20) rfl (by simp [Value.category]) ⟨by decide, by decide⟩ ⟨Nat.zero_le _, Nat.zero_le _⟩ ⟨rfl, rfl⟩ (hP.sc hc) (fun Hw_3 locs_w_3 qw_3 Sw_3 => ?_)
  obtain ⟨Qw_3, zw_3⟩ := qw_3
  have Rw_3 : sk_at D ca Hw_3 A (k_kd σ (k_bs σ c)) (k_bs σ c) (S_nu (k_B σ c) q y) := Qw_3
  obtain ⟨Pw_3, kw_3⟩ := hP.putS (hP.ok.bs hc).1 (hP.ok.bs hc).2 Rw_3 zw_3
  have kw_3 := kpA.rf.tr kw_3
  refine yy_iload_n F d_C_changeNumber_20 (n := 21) rfl 0 rfl ?_
  exact yy_iret F Sw_3 ⟨Nat.zero_le _, Nat.zero_le _⟩ rfl d_C_changeNumber_21 (⟨_, rfl, rfl, Pw_3, kw_3⟩)
set_option maxRecDepth 100000 in
set_option maxHeartbeats 4000000 in
theorem c_C_changeValue {l : Launch} {z : State} {a0 : Array Value} {D : va_G} {ca : kca} (X : kcx l z a0 D ca) {A : kA} {σ : ks} {t c : Nat} (I : iv t σ) (hc : c < k_m σ) {x y : Int32} {q : Nat} (hq : nI (k_start σ c) + x = nI q) (hq2 : q < s_ct (k_B σ c)) : yy_M l z y_C_changeValue (.code y_C_changeValue b_C_changeValue 4 (some .int)) ({ frames := 3, cells := 0, slots := 0, locals := 65 }) [.ref (a_ad A c), .int x, .int y] (ck_at D ca z A σ) (yy_pi (fun r H H1 => r = s_vl (k_B σ c) q ∧ ck_at D ca z A (k_setS σ (k_bs σ c) (S_vl (k_B σ c) q y)) H1 ∧ kpA A H H1)) := by
  refine yy_body (plainFor_of_name (by decide)) (Nat.le_of_ble_eq_true rfl) (fun b H F hS hP hH hnm => ?_)
  refine yy_aload_n F d_C_changeValue_0 (n := 1) rfl 0 rfl ?_
  refine yy_iload_n F d_C_changeValue_1 (n := 2) rfl 1 rfl ?_
  refine yy_cri (w := (s_vl (k_B σ c) q)) F hS (c_C_valueAt (A := A) (σ := σ) (c := c) X I hc hq hq2) (yy_Bc F X.1 q_653 q_9) (yy_invC (nA := 1) (x := y_C_valueAt) F X hP hc q_758 q_649 (k_dec X q_648 q_653) (k_sel q_652 q_650 q_651 σ c) q_648 ⟨by decide, by decide, by decide +kernel⟩ rfl d_C_changeValue_2) d_C_changeValue_2 (n := 5) rfl (by simp [Value.category]) ⟨by decide, by decide⟩ ⟨Nat.zero_le _, Nat.zero_le _⟩ ⟨rfl, rfl⟩ hP rfl (fun _ hS_1 => ?_)
  refine yy_istore_n (lv' := [(3, .int (s_vl (k_B σ c) q)), (0, .ref (a_ad A c)), (1, .int x), (2, .int y)]) F d_C_changeValue_5 (n := 6) rfl (by decide) rfl ?_
  refine yy_aload_n F d_C_changeValue_6 (n := 7) rfl 1 rfl ?_
  refine cr_store F X g_C_15_G g_C_15_P g_C_15_R hP hc d_C_changeValue_7 (n := 10) rfl ?_
  refine yy_aload_n F d_C_changeValue_10 (n := 11) rfl 1 rfl ?_
  refine vd_start F X I hc hP hS_1 q_453 ⟨by decide, by decide⟩ (by simp [Value.category]) d_C_changeValue_11 (n := 14) rfl ⟨Nat.le_refl _, Nat.le_refl _⟩ (fun _ hS_2 => ?_)
  refine yy_iload_n F d_C_changeValue_14 (n := 15) rfl 2 rfl ?_
  refine yy_iadd F d_C_changeValue_15 (n := 16) rfl ?_
  refine yy_iload_n F d_C_changeValue_16 (n := 17) rfl 3 rfl ?_
  refine yy_sec (y := nI q) hq ?_
  refine yy_cv F hS_2 (c_S_setValue (j := q) (x := y) X (I.ct hc) (hP.sok hc) hq2) (yy_Bc F X.1 q_635 q_11) (yy_invV (nA := 2) (C := R_S) (bytes := b_S_setValue) (maxL := 3) (retY := none) F X.1 q_833 q_633 q_634 q_635 ⟨by decide, by decide, by decide +kernel⟩ (yy_recv F.N X.2.1 (ci := 0) rfl (hP.sc hc).1) rfl d_C_changeValue_17) d_C_changeValue_17 (n := 20) rfl (by simp [Value.category]) ⟨by decide, by decide⟩ ⟨Nat.zero_le _, Nat.zero_le _⟩ ⟨rfl, rfl⟩ (hP.sc hc) (fun Hw_3 locs_w_3 qw_3 Sw_3 => ?_)
  obtain ⟨Qw_3, zw_3⟩ := qw_3
  have Rw_3 : sk_at D ca Hw_3 A (k_kd σ (k_bs σ c)) (k_bs σ c) (S_vl (k_B σ c) q y) := Qw_3
  obtain ⟨Pw_3, kw_3⟩ := hP.putS (hP.ok.bs hc).1 (hP.ok.bs hc).2 Rw_3 zw_3
  have kw_3 := kpA.rf.tr kw_3
  refine yy_iload_n F d_C_changeValue_20 (n := 21) rfl 0 rfl ?_
  exact yy_iret F Sw_3 ⟨Nat.zero_le _, Nat.zero_le _⟩ rfl d_C_changeValue_21 (⟨_, rfl, rfl, Pw_3, kw_3⟩)
set_option maxRecDepth 100000 in
set_option maxHeartbeats 4000000 in
theorem c_C_follow {l : Launch} {z : State} {a0 : Array Value} {D : va_G} {ca : kca} (X : kcx l z a0 D ca) {A : kA} {σ : ks} {c : Nat} (hc : c < k_m σ) {more : Int32}  : yy_M l z y_C_follow (.code y_C_follow b_C_follow 2 none) ({ frames := 0, cells := 0, slots := 0, locals := 0 }) [.ref (a_ad A c), .int more] (ck_at D ca z A σ) (yy_rv) := by
  refine yy_body (plainFor_of_name (by decide)) (Nat.le_of_ble_eq_true rfl) (fun b H F hS hP hH hnm => ?_)
  exact yy_vret F hS ⟨Nat.zero_le _, Nat.zero_le _⟩ rfl d_C_follow_0 (⟨rfl, rfl⟩)
set_option maxRecDepth 100000 in
set_option maxHeartbeats 4000000 in
theorem c_P_follow {l : Launch} {z : State} {a0 : Array Value} {D : va_G} {ca : kca} (X : kcx l z a0 D ca) {A : kA} {σ : ks} {c : Nat} (hc : c < k_m σ) {more : Int32} {g : Nat → Nat} (h6 : k_kd σ c = 6) (hw : ∀ x, x < k_m σ → k_kd σ x = 6 → k_of σ x < x) (hch : k_chn σ g more (c + 1) c) : yy_M l z y_P_follow (.code y_P_follow b_P_follow 3 none) ({ frames := 0, cells := 0, slots := 0, locals := 0 }) [.ref (a_ad A c), .int more] (ck_at D ca z A σ) (yy_pv (fun H H1 => ck_at D ca z A (k_fo g (s_ch (k_B σ c)) (c + 1) c σ) H1 ∧ kpA A H H1)) := by
  refine yy_body (plainFor_of_name (by decide)) (Nat.le_of_ble_eq_true rfl) (fun b H F hS hP hH hnm => ?_)
  have loop : ∀ (n x : Nat) (σ1 : ks) (H1 : Heap) (locs : List Loc), x < n → x < k_m σ → k_kd σ x = 6 → k_chn σ g more n x → (∀ y, y ≤ x → k_C σ1 y = k_C σ y) → (∀ y, k_kd σ1 y = k_kd σ y ∧ k_bs σ1 y = k_bs σ y) → σ1.2.2.1 = σ.2.2.1 → σ1.1 = σ.1 → k_fo g (s_ch (k_B σ c)) n x σ1 = k_fo g (s_ch (k_B σ c)) (c + 1) c σ → ck_at D ca z A σ1 H1 → kpA A H H1 → yy_S z H1 locs → yy_Y b H1 locs (0, 0) 2 [(2, .ref (a_ad A x)), (0, .ref (a_ad A c)), (1, .int more)] [] := by
    intro n
    induction n with
    | zero =>
      intro x σ1 H1 locs hn
      exact absurd hn (by omega)
    | succ n ih =>
      intro x σ1 H1 locs hxn hx h6x hchx hC hK hS9 hm hE P1 k1 S1
      have hx1 : x < k_m σ1 := by rw [show k_m σ1 = k_m σ from hm]; exact hx
      have hc1 : c < k_m σ1 := by rw [show k_m σ1 = k_m σ from hm]; exact hc
      have h61 : k_kd σ1 x = 6 := by rw [(hK x).1]; exact h6x
      have h6c : k_kd σ1 c = 6 := by rw [(hK c).1]; exact h6
      have hln : k_ln σ1 x = k_ln σ x := congrArg (fun q : kC => q.2.2.2.2.1) (hC x (Nat.le_refl _))
      have hof : k_of σ1 x = k_of σ x := congrArg (fun q : kC => q.2.2.1) (hC x (Nat.le_refl _))
      have hB : k_B σ1 c = k_B σ c := by unfold k_B; rw [hS9, (hK c).2]
      obtain ⟨hg, hch2⟩ := hchx h6x
      refine yy_aload_n F d_P_follow_2 (n := 3) rfl 0 rfl ?_
      refine yy_ifnull_f F d_P_follow_3 (n := 6) rfl ?_
      refine yy_aload_n F d_P_follow_6 (n := 7) rfl 0 rfl ?_
      refine yy_dup F d_P_follow_7 (n := 8) rfl rfl ?_
      refine yy_get F X.1 X.2.1 g_P_19_P (P1.c6 hx1 h61) rfl d_P_follow_8 (n := 11) rfl ?_
      refine yy_iload_n F d_P_follow_11 (n := 12) rfl 2 rfl ?_
      refine yy_iadd F d_P_follow_12 (n := 13) rfl ?_
      refine cr_ln F X g_P_19_P P1 hx1 h61 S1 (m := (g (k_ln σ1 x))) (by rw [hln]; exact hg) d_P_follow_13 (n := 16) rfl (fun Hw_1 locs_w_1 Pw_1 kw_1 Sw_1 => ?_)
      have kw_1 := k1.tr kw_1
      obtain ⟨σ2, hσ2⟩ : ∃ σ2 : ks, σ2 = k_setL σ1 x (g (k_ln σ1 x)) (k_se σ1 x) := ⟨_, rfl⟩
      rw [← hσ2] at Pw_1
      have hk2 : ∀ y, k_kd σ2 y = k_kd σ1 y ∧ k_bs σ2 y = k_bs σ1 y := fun y => by rw [hσ2]; exact ⟨(k_setL_kd _ _ _ _ y).1, (k_setL_kd _ _ _ _ y).2.1⟩
      have hx2 : x < k_m σ2 := by rw [hσ2]; exact hx1
      have hc2 : c < k_m σ2 := by rw [hσ2]; exact hc1
      have h62 : k_kd σ2 x = 6 := by rw [(hk2 x).1]; exact h61
      have h6c2 : k_kd σ2 c = 6 := by rw [(hk2 c).1]; exact h6c
      have hB2 : k_B σ2 c = k_B σ c := by rw [← hB]; unfold k_B; rw [(hk2 c).2, hσ2]; rfl
      refine yy_aload_n F d_P_follow_16 (n := 17) rfl 0 rfl ?_
      refine yy_aload_n F d_P_follow_17 (n := 18) rfl 1 rfl ?_
      refine yy_get F X.1 X.2.1 g_P_30_P (Pw_1.c6 hc2 h6c2) rfl d_P_follow_18 (n := 21) rfl ?_
      refine yy_get F X.1 X.2.1 g_P_22_S (Pw_1.sc hc2).1 rfl d_P_follow_21 (n := 24) rfl ?_
      refine cr_se F X g_P_27_P Pw_1 hx2 h62 Sw_1 (m := (s_ch (k_B σ c))) (by rw [hB2]) d_P_follow_24 (n := 27) rfl (fun Hw_2 locs_w_2 Pw_2 kw_2 Sw_2 => ?_)
      have kw_2 := kw_1.tr kw_2
      rw [show k_setL σ2 x (k_ln σ2 x) (s_ch (k_B σ c)) = k_setL σ1 x (g (k_ln σ1 x)) (s_ch (k_B σ c)) by rw [hσ2, k_setL2, (k_setL_ln σ1 x _ _).1]] at Pw_2
      obtain ⟨σ3, hσ3⟩ : ∃ σ3 : ks, σ3 = k_setL σ1 x (g (k_ln σ1 x)) (s_ch (k_B σ c)) := ⟨_, rfl⟩
      rw [← hσ3] at Pw_2
      have hk3 : ∀ y, k_kd σ3 y = k_kd σ1 y ∧ k_bs σ3 y = k_bs σ1 y ∧ k_of σ3 y = k_of σ1 y := fun y => by rw [hσ3]; exact ⟨(k_setL_kd _ _ _ _ y).1, (k_setL_kd _ _ _ _ y).2.1, (k_setL_kd _ _ _ _ y).2.2.1⟩
      have hx3 : x < k_m σ3 := by rw [hσ3]; exact hx1
      have h63 : k_kd σ3 x = 6 := by rw [(hk3 x).1]; exact h61
      rw [show k_fo g (s_ch (k_B σ c)) (n + 1) x σ1 = k_fo g (s_ch (k_B σ c)) n (k_of σ x) σ3 from by rw [hσ3, ← hof]; exact if_pos h61] at hE
      have hox := hw x hx h6x
      refine yy_aload_n F d_P_follow_27 (n := 28) rfl 0 rfl ?_
      refine yy_get F X.1 X.2.1 g_P_9_P (Pw_2.c6 hx3 h63) rfl d_P_follow_28 (n := 31) rfl ?_
      have hab : k_ab A σ3 x = if k_kd σ (k_of σ x) = 6 then some (a_ad A (k_of σ x)) else none := by unfold k_ab; rw [(hk3 x).2.2, hof, (hk3 _).1, (hK _).1]
      rw [hab]
      by_cases h6o : k_kd σ (k_of σ x) = 6
      · rw [if_pos h6o]
        refine yy_astore_n (lv' := [(2, .ref (a_ad A (k_of σ x))), (0, .ref (a_ad A c)), (1, .int more)]) F d_P_follow_31 (n := 32) rfl (by decide) rfl ?_
        refine yy_goto (tgt := 2) F d_P_follow_32 (by decide) ?_
        exact yy_sub [0, 1, 2] rfl (ih (k_of σ x) σ3 _ _ (by omega) (by omega) h6o hch2 (fun y hy => by rw [hσ3, k_setL_o σ1 _ _ (by omega)]; exact hC y (by omega)) (fun y => by rw [(hk3 y).1, (hk3 y).2.1]; exact hK y) (by rw [hσ3]; exact hS9) (by rw [hσ3]; exact hm) hE Pw_2 kw_2 Sw_2)
      · rw [if_neg h6o]
        refine yy_astore_nN (lv' := [(2, .null), (0, .ref (a_ad A c)), (1, .int more)]) F d_P_follow_31 (n := 32) rfl (by decide) rfl ?_
        refine yy_goto (tgt := 2) F d_P_follow_32 (by decide) ?_
        refine yy_aload_nN F d_P_follow_2 (n := 3) rfl 0 rfl ?_
        refine yy_ifnull_t (tgt := 35) F d_P_follow_3 (by decide) ?_
        have hlast : k_fo g (s_ch (k_B σ c)) n (k_of σ x) σ3 = σ3 := by
          cases n with
          | zero => rfl
          | succ n => exact if_neg (by rw [(hk3 _).1, (hK _).1]; exact h6o)
        rw [hlast] at hE
        exact yy_vret F Sw_2 ⟨Nat.zero_le _, Nat.zero_le _⟩ rfl d_P_follow_35 (⟨rfl, by rw [← hE]; exact Pw_2, kw_2⟩)
  refine yy_aload_n F d_P_follow_0 (n := 1) rfl 0 rfl ?_
  refine yy_astore_n (lv' := [(2, .ref (a_ad A c)), (0, .ref (a_ad A c)), (1, .int more)]) F d_P_follow_1 (n := 2) rfl (by decide) rfl ?_
  exact yy_sub [0, 1, 2] rfl (loop (c + 1) c σ H _ (by omega) hc h6 hch (fun _ _ => rfl) (fun _ => ⟨rfl, rfl⟩) rfl rfl rfl hP kpA.rf hS)
theorem vd_follow {l : Launch} {z : State} {a0 : Array Value} {D : va_G} {ca : kca} {rm : Room} {cc : ByteArray} {nL : Nat} {own : String} {ret : Option FieldType} {hh : List (Nat × Nat × Nat × Nat)} {Post : yy_R → Heap → Prop} {b : yy_T} {H : Heap} {locs : List Loc} {k : Nat × Nat} {pc n idx : Nat} {lv : List (Nat × Value)} {rest : List Value} {A : kA} {σ : ks} {c : Nat} {more : Int32} {g : Nat → Nat} (F : yy_A l z b rm cc nL own ret hh Post) (X : kcx l z a0 D ca) (hc : c < k_m σ) (P : ck_at D ca z A σ H) (hS : yy_S z H locs) (hl : Cond.methodLink own idx y_C_follow ∈ lw_tbl) (hw : (∀ x, x < k_m σ → k_kd σ x = 6 → k_of σ x < x) ∧ k_chn σ g more (c + 1) c) (hR : 1 ≤ rm.frames ∧ 22 ≤ rm.locals) (hW8 : (rest.map fun v => v.category).sum ≤ 8) (d : decode cc pc = .ok (.invokevirtual idx, 3)) (hn : pc + 3 = n) (hf : k.1 ≤ rm.cells ∧ k.2 ≤ rm.slots)
    (kk : ∀ (H1 : Heap) (locs1 : List Loc), ck_at D ca z A (k_fo g (s_ch (k_B σ c)) (c + 1) c σ) H1 → kpA A H H1 → yy_S z H1 locs1 → yy_Y b H1 locs1 k n lv rest) : yy_Y b H locs k pc lv (.int more :: .ref (a_ad A c) :: rest) := by
  by_cases h6 : k_kd σ c = 6
  · exact yy_cv F hS (c_P_follow (A := A) (σ := σ) (c := c) (more := more) (g := g) X hc h6 hw.1 hw.2) (yy_Bc F X.1 q_518 q_16) (yy_invC (nA := 1) (x := y_C_follow) F X P hc hl q_515 (k_dec X q_514 q_521) (by rw [k_cls6 h6]; exact q_516) q_517 ⟨by decide, by decide, by decide +kernel⟩ rfl d) d hn hW8 (by constructor <;> simp <;> omega) hf ⟨rfl, rfl⟩ P (fun H1 locs1 h1 h2 => kk H1 locs1 h1.1 h1.2 h2)
  · have hE : k_fo g (s_ch (k_B σ c)) (c + 1) c σ = σ := if_neg h6
    rw [hE] at kk
    have hse : Cond.selects (k_cls σ c) y_C_follow y_C_follow ∈ lw_tbl := by
      unfold k_cls
      rw [if_neg h6]
      split
      · exact q_519
      · exact q_520
    exact yy_crv F hS (c_C_follow (A := A) (σ := σ) (c := c) (more := more) X hc) (yy_Bc F X.1 q_521 q_9) (yy_invC (nA := 1) (x := y_C_follow) F X P hc hl q_515 (k_dec X q_514 q_521) hse q_514 ⟨by decide, by decide, by decide +kernel⟩ rfl d) d hn hW8 (by constructor <;> simp <;> omega) hf ⟨rfl, rfl⟩ P (fun locs1 h2 => kk H locs1 P kpA.rf h2)
end
section
/-! PART pure: a change through a container, and what holds behind it -/
/-- the container's base becomes s; the parts from c upwards follow -/
def k_thru (σ : ks) (c : Nat) (s : kS) (g : Nat → Nat) : ks := k_fo g (s_ch (k_B (k_setS σ (k_bs σ c) s) c)) (c + 1) c (k_setS σ (k_bs σ c) s)
def k_bring (σ : ks) (c q : Nat) (x : Int32) : ks := k_thru σ c (S_bring (k_kd σ (k_bs σ c)) (k_B σ c) q x 0) (fun m => m + 1)
def k_take (σ : ks) (c q : Nat) : ks := k_thru σ c (S_take (k_B σ c) q) (fun m => m - 1)
def k_arr (σ : ks) (c : Nat) (how : Int32) : ks := k_thru σ c (S_so (k_B σ c) (k_start σ c) (k_start σ c + k_size σ c) how) (fun m => m)
/-- y is met on the way from x upwards -/
def on_ch (σ : ks) : Nat → Nat → Nat → Prop
  | 0, _, _ => False
  | n + 1, x, y => k_kd σ x = 6 ∧ (y = x ∨ on_ch σ n (k_of σ x) y)
theorem on_ch_congr {σ σ' : ks} (h : ∀ y, k_kd σ' y = k_kd σ y ∧ k_of σ' y = k_of σ y) : ∀ n x y : Nat, on_ch σ' n x y ↔ on_ch σ n x y
  | 0, _, _ => Iff.rfl
  | n + 1, x, y => by
    unfold on_ch
    rw [(h x).1, (h x).2, on_ch_congr h n (k_of σ x) y]
theorem on_ch_le {σ : ks} {m : Nat} (hw : ∀ x, x < m → k_kd σ x = 6 → k_of σ x < x) : ∀ {n x y : Nat}, x < m → on_ch σ n x y → y ≤ x
  | 0, _, _, _, h => h.elim
  | n + 1, x, y, hx, h => by
    rcases h with ⟨h6, h | h⟩
    · omega
    · have h1 := hw x hx h6
      have h2 := on_ch_le hw (by omega) h
      omega
theorem on_ch_up {σ : ks} {m : Nat} (hw : ∀ x, x < m → k_kd σ x = 6 → k_of σ x < x) : ∀ {n x y : Nat}, x < m → x < n → on_ch σ n x y → k_kd σ (k_of σ y) = 6 → on_ch σ n x (k_of σ y)
  | 0, _, _, _, _, h, _ => h.elim
  | n + 1, x, y, hx, hn, h, h6 => by
    rcases h with ⟨h6x, h | h⟩
    · subst h
      have h1 := hw y hx h6x
      refine ⟨h6x, Or.inr ?_⟩
      cases n with
      | zero => omega
      | succ n => exact ⟨h6, Or.inl rfl⟩
    · have h1 := hw x hx h6x
      exact ⟨h6x, Or.inr (on_ch_up hw (by omega) (by omega) h h6)⟩
/-- what following changes -/
theorem k_fo_C {m : Nat} (g : Nat → Nat) (h : Nat) : ∀ (n x : Nat) (σ : ks), (∀ x, x < m → k_kd σ x = 6 → k_of σ x < x) → x < m → (k_fo g h n x σ).1 = σ.1 ∧ (k_fo g h n x σ).2.2 = σ.2.2 ∧ ∀ y, (on_ch σ n x y → k_C (k_fo g h n x σ) y = (k_kd σ y, k_bs σ y, k_of σ y, k_fs σ y, g (k_ln σ y), h, k_lo σ y, k_hi σ y)) ∧ (¬ on_ch σ n x y → k_C (k_fo g h n x σ) y = k_C σ y)
  | 0, x, σ, _, _ => ⟨rfl, rfl, fun y => ⟨fun h => h.elim, fun _ => rfl⟩⟩
  | n + 1, x, σ, hw, hx => by
    by_cases h6 : k_kd σ x = 6
    · have e : k_fo g h (n + 1) x σ = k_fo g h n (k_of σ x) (k_setL σ x (g (k_ln σ x)) h) := if_pos h6
      have hk := k_setL_kd σ x (g (k_ln σ x)) h
      have hox := hw x hx h6
      obtain ⟨i1, i2, i3⟩ := k_fo_C (m := m) g h n (k_of σ x) (k_setL σ x (g (k_ln σ x)) h) (fun y hy hy6 => by rw [(hk y).2.2.1]; exact hw y hy (by rw [← (hk y).1]; exact hy6)) (by omega)
      rw [e]
      refine ⟨i1, i2, fun y => ?_⟩
      have hcg := on_ch_congr (σ := σ) (σ' := k_setL σ x (g (k_ln σ x)) h) (fun y => ⟨(hk y).1, (hk y).2.2.1⟩) n (k_of σ x) y
      by_cases hy : y = x
      · subst hy
        have hno : ¬ on_ch σ n (k_of σ y) y := fun q => by have := on_ch_le hw (by omega) q; omega
        refine ⟨fun _ => ?_, fun q => absurd ⟨h6, Or.inl rfl⟩ q⟩
        rw [(i3 y).2 (mt hcg.mp hno)]
        unfold k_setL k_setC k_C
        dsimp only
        rw [up1_s]
      · have hC := k_setL_o σ (g (k_ln σ x)) h hy
        refine ⟨fun q => ?_, fun q => ?_⟩
        · rcases q with ⟨-, q | q⟩
          · exact absurd q hy
          · rw [(i3 y).1 (hcg.mpr q)]
            have hC9 : (k_setL σ x (g (k_ln σ x)) h).2.1 y = σ.2.1 y := hC
            unfold k_kd k_bs k_of k_fs k_ln k_lo k_hi
            rw [hC9]
        · rw [(i3 y).2 (fun q9 => q ⟨h6, Or.inr (hcg.mp q9)⟩)]
          exact hC
    · have e : k_fo g h (n + 1) x σ = σ := if_neg h6
      rw [e]
      exact ⟨rfl, rfl, fun y => ⟨fun q => absurd q.1 h6, fun _ => rfl⟩⟩
section Thru
variable {t : Nat} {σ : ks} {c : Nat}
theorem iv.hw (I : iv t σ) : ∀ x, x < k_m σ → k_kd σ x = 6 → k_of σ x < x := fun x hx h6 => ((I.cc hx).2.2.2.2.2 h6).2.1
/-- the parts on the way are not stale, and lie in each other -/
theorem iv.on (I : iv t σ) : ∀ {n x y : Nat}, x < k_m σ → k_fr σ x → on_ch σ n x y → y < k_m σ ∧ k_kd σ y = 6 ∧ k_bs σ y = k_bs σ x ∧ k_fr σ y ∧ k_ln σ x ≤ k_ln σ y
  | 0, _, _, _, _, h => h.elim
  | n + 1, x, y, hx, hf, h => by
    rcases h with ⟨h6, h | h⟩
    · subst h
      exact ⟨hx, h6, rfl, hf, Nat.le_refl _⟩
    · have hox := I.hw x hx h6
      obtain ⟨-, -, hb, -, -, h9⟩ := (I.cc hx).2.2.2.2.2 h6
      have h8 := (h9 (hf h6)).2
      have h6o : k_kd σ (k_of σ x) = 6 := by
        cases n with
        | zero => exact h.elim
        | succ n => exact h.1
      have hfo : k_fr σ (k_of σ x) := fun _ => by
        rw [(h8 h6o).1]
        unfold k_B
        rw [hb]
      obtain ⟨i1, i2, i3, i4, i5⟩ := I.on (by omega) hfo h
      exact ⟨i1, i2, by rw [i3, hb], i4, Nat.le_trans (h8 h6o).2 i5⟩
theorem iv.chn (I : iv t σ) : ∀ (n x : Nat), x < k_m σ → k_fr σ x → (k_kd σ x = 6 → 1 ≤ k_ln σ x) → k_chn σ (fun m => m - 1) (-1) n x
  | 0, _, _, _, _ => trivial
  | n + 1, x, hx, hf, h1 => fun h6 => by
    have hox := I.hw x hx h6
    obtain ⟨-, -, hb, -, -, h9⟩ := (I.cc hx).2.2.2.2.2 h6
    have h8 := (h9 (hf h6)).2
    have h2 := h1 h6
    refine ⟨?_, I.chn n _ (by omega) (fun h6o => ?_) (fun h6o => Nat.le_trans h2 (h8 h6o).2)⟩
    · obtain ⟨m, hm⟩ : ∃ m, k_ln σ x = m + 1 := ⟨k_ln σ x - 1, by omega⟩
      rw [hm]
      exact pk_m1 m
    · rw [(h8 h6o).1]
      unfold k_B
      rw [hb]
theorem k_chn_S (σ : ks) (b : Nat) (s : kS) (g : Nat → Nat) (more : Int32) : ∀ n x : Nat, k_chn (k_setS σ b s) g more n x ↔ k_chn σ g more n x
  | 0, _ => Iff.rfl
  | n + 1, x => by
    unfold k_chn
    rw [k_chn_S σ b s g more n]
    exact Iff.rfl
/-- all that a change through a container keeps -/
theorem k_thru_C (I : iv t σ) (hc : c < k_m σ) (s : kS) (g : Nat → Nat) : (k_thru σ c s g).1 = σ.1 ∧ (k_thru σ c s g).2.2.1 = up1 σ.2.2.1 (k_bs σ c) s ∧ (k_thru σ c s g).2.2.2 = σ.2.2.2 ∧ ∀ y, (on_ch σ (c + 1) c y → k_C (k_thru σ c s g) y = (k_kd σ y, k_bs σ y, k_of σ y, k_fs σ y, g (k_ln σ y), s_ch s, k_lo σ y, k_hi σ y)) ∧ (¬ on_ch σ (c + 1) c y → k_C (k_thru σ c s g) y = k_C σ y) := by
  have hB : k_B (k_setS σ (k_bs σ c) s) c = s := up1_s _ _ _
  unfold k_thru
  rw [hB]
  obtain ⟨i1, i2, i3⟩ := k_fo_C (m := k_m σ) g (s_ch s) (c + 1) c (k_setS σ (k_bs σ c) s) I.hw hc
  refine ⟨i1, by rw [i2]; rfl, by rw [i2]; rfl, fun y => ?_⟩
  have hcg := on_ch_congr (σ := σ) (σ' := k_setS σ (k_bs σ c) s) (fun y => ⟨rfl, rfl⟩) (c + 1) c y
  exact ⟨fun q => (i3 y).1 (hcg.mpr q), fun q => (i3 y).2 (mt hcg.mp q)⟩
theorem k_thru_k (I : iv t σ) (hc : c < k_m σ) (s : kS) (g : Nat → Nat) (y : Nat) : k_kd (k_thru σ c s g) y = k_kd σ y ∧ k_bs (k_thru σ c s g) y = k_bs σ y ∧ k_of (k_thru σ c s g) y = k_of σ y ∧ k_fs (k_thru σ c s g) y = k_fs σ y ∧ k_lo (k_thru σ c s g) y = k_lo σ y ∧ k_hi (k_thru σ c s g) y = k_hi σ y := by
  have h := (k_thru_C I hc s g).2.2.2 y
  unfold k_kd k_bs k_of k_fs k_lo k_hi
  by_cases q : on_ch σ (c + 1) c y
  · have e : (k_thru σ c s g).2.1 y = _ := h.1 q
    rw [e]
    exact ⟨rfl, rfl, rfl, rfl, rfl, rfl⟩
  · have e : (k_thru σ c s g).2.1 y = _ := h.2 q
    rw [e]
    exact ⟨rfl, rfl, rfl, rfl, rfl, rfl⟩
theorem k_thru_S (I : iv t σ) (hc : c < k_m σ) (s : kS) (g : Nat → Nat) (y : Nat) : k_S (k_thru σ c s g) y = up1 σ.2.2.1 (k_bs σ c) s y := by
  unfold k_S
  rw [(k_thru_C I hc s g).2.1]
theorem k_thru_B (I : iv t σ) (hc : c < k_m σ) (s : kS) (g : Nat → Nat) (y : Nat) : k_B (k_thru σ c s g) y = if k_bs σ y = k_bs σ c then s else k_B σ y := by
  unfold k_B
  rw [(k_thru_k I hc s g y).2.1, (k_thru_C I hc s g).2.1]
  unfold up1
  rfl
theorem k_thru_ln (I : iv t σ) (hc : c < k_m σ) (s : kS) (g : Nat → Nat) {y : Nat} (q : on_ch σ (c + 1) c y) : k_ln (k_thru σ c s g) y = g (k_ln σ y) ∧ k_se (k_thru σ c s g) y = s_ch s := by
  have e : (k_thru σ c s g).2.1 y = _ := ((k_thru_C I hc s g).2.2.2 y).1 q
  unfold k_ln k_se
  rw [e]
  exact ⟨rfl, rfl⟩
theorem k_thru_no (I : iv t σ) (hc : c < k_m σ) (s : kS) (g : Nat → Nat) {y : Nat} (q : ¬ on_ch σ (c + 1) c y) : k_ln (k_thru σ c s g) y = k_ln σ y ∧ k_se (k_thru σ c s g) y = k_se σ y := by
  have e : (k_thru σ c s g).2.1 y = _ := ((k_thru_C I hc s g).2.2.2 y).2 q
  unfold k_ln k_se
  rw [e]
  exact ⟨rfl, rfl⟩
theorem k_size_congr {σ' : ks} (h : k_kd σ' c = k_kd σ c ∧ k_ln σ' c = k_ln σ c ∧ k_B σ' c = k_B σ c ∧ k_lo σ' c = k_lo σ c ∧ k_hi σ' c = k_hi σ c) : k_size σ' c = k_size σ c := by
  unfold k_size
  rw [h.1, h.2.1, h.2.2.1, h.2.2.2.1, h.2.2.2.2]
theorem iv.thru {t' : Nat} (I : iv t σ) (hc : c < k_m σ) (hf : k_fr σ c) {s : kS} {g : Nat → Nat} (ht : t' ≤ 100000) (htt : t ≤ t') (hs : iv_s t' (k_kd σ (k_bs σ c)) s) (hch : s_ch (k_B σ c) < s_ch s) (hg : ∀ a b : Nat, a ≤ b → g a ≤ g b) (hgc : ∀ y, on_ch σ (c + 1) c y → k_fs σ y + g (k_ln σ y) ≤ s_ct s) : iv t' (k_thru σ c s g) ∧ k_fr (k_thru σ c s g) c := by
  obtain ⟨j1, j2, j3, j4⟩ := k_thru_C I hc s g
  have hk := k_thru_k I hc s g
  have hB := k_thru_B I hc s g
  have hbs : ∀ y, y < k_m σ → on_ch σ (c + 1) c y → k_bs σ y = k_bs σ c := fun y hy q => (I.on hc hf q).2.2.1
  have hm : k_m (k_thru σ c s g) = k_m σ := j1
  refine ⟨⟨by rw [hm]; exact I.1, ht, fun y hy => ?_, fun b hb e => ?_, fun i hi => ?_⟩, fun h6 => ?_⟩
  · rw [hm] at hy
    obtain ⟨i1, i2, i3, i4, i5, i6⟩ := I.cc hy
    unfold iv_c
    rw [(hk y).1, (hk y).2.1, (hk y).2.2.1, (hk y).2.2.2.1, (hk (k_bs σ y)).1, (hk (k_bs σ y)).2.1, (hk (k_of σ y)).1, (hk (k_of σ y)).2.1, hm, hB y]
    refine ⟨i1, i2, i3, i4, i5, fun h6 => ?_⟩
    obtain ⟨l1, l2, l3, l4, l5, l6⟩ := i6 h6
    refine ⟨l1, l2, l3, l4, ?_⟩
    by_cases q : on_ch σ (c + 1) c y
    · rw [(k_thru_ln I hc s g q).1, (k_thru_ln I hc s g q).2, if_pos (hbs y hy q)]
      refine ⟨Nat.le_refl _, fun _ => ⟨hgc y q, fun h6o => ?_⟩⟩
      have qo := on_ch_up I.hw hc (Nat.lt_succ_self _) q h6o
      rw [(k_thru_ln I hc s g qo).1, (k_thru_ln I hc s g qo).2]
      have hfy := (I.on hc hf q).2.2.2.1
      exact ⟨rfl, hg _ _ ((l6 (hfy h6)).2 h6o).2⟩
    · rw [(k_thru_no I hc s g q).1, (k_thru_no I hc s g q).2]
      by_cases hb : k_bs σ y = k_bs σ c
      · rw [if_pos hb]
        have l5' : k_se σ y ≤ s_ch (k_B σ c) := by
          have : k_B σ y = k_B σ c := by unfold k_B; rw [hb]
          rw [← this]; exact l5
        exact ⟨by omega, fun q9 => by omega⟩
      · rw [if_neg hb]
        refine ⟨l5, fun q9 => ⟨(l6 q9).1, fun h6o => ?_⟩⟩
        have qo : ¬ on_ch σ (c + 1) c (k_of σ y) := fun qo => hb (by rw [← l3]; exact hbs _ (by omega) qo)
        rw [(k_thru_no I hc s g qo).1, (k_thru_no I hc s g qo).2]
        exact (l6 q9).2 h6o
  · rw [hm] at hb
    rw [(hk b).1, k_thru_S I hc s g b]
    rw [(hk b).2.1] at e
    by_cases hbb : b = k_bs σ c
    · rw [hbb, up1_s]
      exact hs
    · rw [up1_o _ _ hbb]
      obtain ⟨h1, h2, h3⟩ := I.2.2.2.1 b hb e
      exact ⟨h1, Nat.le_trans h2 htt, h3⟩
  · have hWi : k_W (k_thru σ c s g) i = k_W σ i := by unfold k_W; rw [j3]
    rw [hWi]
    obtain ⟨w1, w2⟩ := I.2.2.2.2 i hi
    refine ⟨w1, fun o ho => ?_⟩
    obtain ⟨v1, v2, v3, v4⟩ := w2 o ho
    unfold iv_w
    rw [hWi, hm, (hk o).1, hB o]
    by_cases hb : k_bs σ o = k_bs σ c
    · rw [if_pos hb]
      have e9 : k_B σ o = k_B σ c := by unfold k_B; rw [hb]
      rw [e9] at v3
      exact ⟨v1, v2, by omega, fun _ q => by omega⟩
    · rw [if_neg hb]
      have qo : ¬ on_ch σ (c + 1) c o := fun qo => hb (hbs _ v1 qo)
      have hsz : k_size (k_thru σ c s g) o = k_size σ o := k_size_congr ⟨(hk o).1, (k_thru_no I hc s g qo).1, by rw [hB o, if_neg hb], (hk o).2.2.2.2.1, (hk o).2.2.2.2.2⟩
      have hfr : k_fr (k_thru σ c s g) o → k_fr σ o := fun q h6 => by
        have := q (by rw [(hk o).1]; exact h6)
        rw [(k_thru_no I hc s g qo).2, hB o, if_neg hb] at this
        exact this
      refine ⟨v1, v2, v3, fun q1 q2 => ?_⟩
      rw [hsz]
      exact v4 (hfr q1) q2
  · rw [(hk c).1] at h6
    have qc : on_ch σ (c + 1) c c := ⟨h6, Or.inl rfl⟩
    rw [(k_thru_ln I hc s g qc).2, hB c, if_pos rfl]
end Thru
end
section
/-! PART pure2: taking out, bringing in, sorting; counts over a row -/
theorem ym_cnt_ext {p p' : Nat → Bool} : ∀ {n : Nat}, (∀ i, i < n → p i = p' i) → ym_cnt p n = ym_cnt p' n
  | 0, _ => rfl
  | n + 1, h => by
    unfold ym_cnt
    rw [ym_cnt_ext (n := n) (fun i hi => h i (by omega)), h n (by omega)]
/-- of a row where all that is so stands first -/
theorem ym_cnt_lt {p : Nat → Bool} : ∀ {n : Nat}, (∀ i j, i ≤ j → j < n → p j = true → p i = true) → ∀ i, i < n → (i < ym_cnt p n ↔ p i = true)
  | 0, _, i, hi => by omega
  | n + 1, h, i, hi => by
    have ih := ym_cnt_lt (p := p) (n := n) (fun i j a b => h i j a (by omega))
    have hle := ym_cnt_le p n
    unfold ym_cnt
    by_cases hp : p n = true
    · have hall : ym_cnt p n = n := by
        apply Nat.le_antisymm hle
        cases n with
        | zero => exact Nat.zero_le _
        | succ m =>
          have h1 := (ih m (by omega)).mpr (h m (m + 1) (by omega) (by omega) hp)
          omega
      rw [hall, if_pos hp]
      exact ⟨fun _ => h i n (by omega) (by omega) hp, fun _ => hi⟩
    · rw [if_neg hp]
      by_cases hn : i = n
      · subst hn
        exact ⟨fun q => by omega, fun q => absurd q hp⟩
      · exact ih i (by omega)
theorem so_bel {f : Nat → Int32} {n : Nat} (hs : so_t f n) (x e : Int32) : ∀ i j, i ≤ j → j < n → ym_bel f x e j = true → ym_bel f x e i = true := by
  intro i j hij hj h
  have h1 := hs i j hij hj
  unfold ym_bel at h ⊢
  simp only [Bool.or_eq_true, Bool.and_eq_true, decide_eq_true_eq] at h ⊢
  rw [Int32.le_iff_toInt_le] at h1
  simp only [Int32.lt_iff_toInt_lt, ← Int32.toInt_inj] at h ⊢
  rcases h with h | ⟨h2, h3⟩
  · exact Or.inl (by omega)
  · by_cases h9 : (f i).toInt = x.toInt
    · exact Or.inr ⟨h2, h9⟩
    · exact Or.inl (by omega)
theorem so_lt {f : Nat → Int32} {n i : Nat} {x : Int32} (hs : so_t f n) (hi : i < n) : i < ym_cnt (ym_bel f x 0) n ↔ f i < x := by
  rw [ym_cnt_lt (so_bel hs x 0) i hi]
  simp [ym_bel]
theorem so_le {f : Nat → Int32} {n i : Nat} {x : Int32} (hs : so_t f n) (hi : i < n) : i < ym_cnt (ym_bel f x 1) n ↔ f i ≤ x := by
  rw [ym_cnt_lt (so_bel hs x 1) i hi]
  simp only [ym_bel, Bool.or_eq_true, Bool.and_eq_true, decide_eq_true_eq, Int32.lt_iff_toInt_lt, ← Int32.toInt_inj, Int32.le_iff_toInt_le]
  constructor
  · rintro (h | ⟨-, h⟩) <;> omega
  · intro h
    by_cases h9 : (f i).toInt = x.toInt
    · exact Or.inr ⟨by decide, h9⟩
    · exact Or.inl (by omega)
/-- counting behind a taking out -/
theorem cnt_sh (P : Int32 → Bool) (f : Nat → Int32) (q m : Nat) (hq : q ≤ m) : ym_cnt (fun i => P (ym_sh f q m i)) m + (if P (f q) then 1 else 0) = ym_cnt (fun i => P (f i)) (m + 1) := by
  have h1 : ∀ k, k ≤ q → ym_cnt (fun i => P (ym_sh f q m i)) k = ym_cnt (fun i => P (f i)) k := fun k hk => ym_cnt_ext (fun i hi => by
    show P (ym_sh f q m i) = _
    unfold ym_sh
    rw [if_neg (by omega)])
  have h2 : ∀ d, q + d ≤ m → ym_cnt (fun i => P (ym_sh f q m i)) (q + d) + (if P (f q) then 1 else 0) = ym_cnt (fun i => P (f i)) (q + d + 1) := by
    intro d
    induction d with
    | zero =>
      intro _
      show ym_cnt (fun i => P (ym_sh f q m i)) q + _ = ym_cnt (fun i => P (f i)) q + (if P (f q) then 1 else 0)
      rw [h1 q (Nat.le_refl _)]
    | succ d ih =>
      intro hd
      have ih9 := ih (by omega)
      show ym_cnt (fun i => P (ym_sh f q m i)) (q + d) + (if P (ym_sh f q m (q + d)) then 1 else 0) + _ = ym_cnt (fun i => P (f i)) (q + d + 1) + (if P (f (q + d + 1)) then 1 else 0)
      have e : ym_sh f q m (q + d) = f (q + d + 1) := by
        unfold ym_sh
        rw [if_pos (by omega)]
      rw [e]
      omega
  have h3 := h2 (m - q) (by omega)
  rw [show q + (m - q) = m by omega] at h3
  exact h3
theorem cnt_bel (f : Nat → Int32) (x e : Int32) {q n : Nat} (hq : q < n) : ym_cnt (ym_bel (ym_sh f q (n - 1)) x e) (n - 1) + (if ym_bel f x e q = true then 1 else 0) = ym_cnt (ym_bel f x e) n := by
  obtain ⟨m, rfl⟩ : ∃ m, n = m + 1 := ⟨n - 1, by omega⟩
  exact cnt_sh (fun v => decide (v < x) || (decide (¬ e = 0) && decide (v = x))) f q m (by omega)
theorem so_sh {f : Nat → Int32} {n q : Nat} (hs : so_t f n) : so_t (ym_sh f q (n - 1)) (n - 1) := by
  intro i j hij hj
  unfold ym_sh
  by_cases h1 : q ≤ i ∧ i < n - 1
  · rw [if_pos h1, if_pos (by omega)]
    exact hs _ _ (by omega) (by omega)
  · rw [if_neg h1]
    by_cases h2 : q ≤ j ∧ j < n - 1
    · rw [if_pos h2]
      exact hs _ _ (by omega) (by omega)
    · rw [if_neg h2]
      exact hs _ _ hij (by omega)
theorem so_up {f : Nat → Int32} {n q : Nat} {x : Int32} (hs : so_t f n) (hq : q ≤ n) (h1 : ∀ i, i < q → f i ≤ x) (h2 : ∀ i, q ≤ i → i < n → x ≤ f i) : so_t (upd (ym_up f q n) q x) (n + 1) := by
  intro i j hij hj
  unfold upd ym_up
  by_cases hi : i = q
  · subst hi
    rw [if_pos rfl]
    by_cases hj1 : j = i
    · rw [if_pos hj1]
      exact Int32.le_refl _
    · rw [if_neg hj1]
      rw [if_pos (by omega)]
      exact h2 _ (by omega) (by omega)
  · rw [if_neg hi]
    by_cases hj1 : j = q
    · rw [if_pos hj1, if_neg (by omega)]
      exact h1 i (by omega)
    · rw [if_neg hj1]
      by_cases hi2 : q < i ∧ i ≤ n
      · rw [if_pos hi2, if_pos (by omega)]
        exact hs _ _ (by omega) (by omega)
      · rw [if_neg hi2]
        by_cases hj2 : q < j ∧ j ≤ n
        · rw [if_pos hj2]
          exact hs _ _ (by omega) (by omega)
        · rw [if_neg hj2]
          exact hs _ _ hij (by omega)
section Pu2
variable {t : Nat} {σ : ks} {c q : Nat}
theorem iv.take (I : iv t σ) (ht : t + 1 ≤ 100000) (hc : c < k_m σ) (hf : k_fr σ c) (hq : q < s_ct (k_B σ c)) (h1 : k_kd σ c = 6 → 1 ≤ k_ln σ c) : iv (t + 1) (k_take σ c q) ∧ k_fr (k_take σ c q) c := by
  obtain ⟨s1, s2, s3, s4, s5, s6, s7⟩ := I.s hc
  refine I.thru hc hf ht (Nat.le_succ _) ⟨?_, ?_, s3, fun h => ?_, fun h => ?_, fun h => ?_, fun h => so_sh (s7 h)⟩ (Nat.lt_succ_self _) (fun a b h => by omega) (fun y hy => ?_)
  · show s_ct (k_B σ c) - 1 ≤ 24
    omega
  · show s_ch (k_B σ c) + 1 ≤ t + 1
    omega
  · have := s4 h
    show s_ct (k_B σ c) - 1 ≤ s_ro (k_B σ c)
    omega
  · have := s5 h
    show 4 * (s_ct (k_B σ c) - 1) ≤ 3 * s_ro (k_B σ c)
    omega
  · have := s6 h
    show s_ct (k_B σ c) - 1 ≤ 6
    omega
  · obtain ⟨y1, y2, y3, y4, y5⟩ := I.on hc hf hy
    have h6 := hy.1
    have := h1 h6
    have he := (((I.cc y1).2.2.2.2.2 y2).2.2.2.2.2 (y4 y2)).1
    have e9 : k_B σ y = k_B σ c := by unfold k_B; rw [y3]
    rw [e9] at he
    show k_fs σ y + (k_ln σ y - 1) ≤ s_ct (k_B σ c) - 1
    omega
theorem iv.bring {x : Int32} (I : iv t σ) (ht : t + 1 ≤ 100000) (hc : c < k_m σ) (hf : k_fr σ c) (hq : q ≤ s_ct (k_B σ c)) (h24 : s_ct (k_B σ c) < 24) (hkd : ¬ k_kd σ (k_bs σ c) = 2 ∧ ¬ k_kd σ (k_bs σ c) = 3) (hso : k_kd σ (k_bs σ c) = 4 ∨ k_kd σ (k_bs σ c) = 5 → so_t (upd (ym_up (s_nu (k_B σ c)) q (s_ct (k_B σ c))) q x) (s_ct (k_B σ c) + 1)) : iv (t + 1) (k_bring σ c q x) ∧ k_fr (k_bring σ c q x) c := by
  obtain ⟨s1, s2, s3, s4, s5, s6, s7⟩ := I.s hc
  refine I.thru hc hf ht (Nat.le_succ _) ⟨?_, ?_, ?_, fun h => ?_, fun h => ?_, fun h => absurd h hkd.2, hso⟩ (Nat.lt_succ_self _) (fun a b h => by omega) (fun y hy => ?_)
  · show s_ct (k_B σ c) + 1 ≤ 24
    omega
  · show s_ch (k_B σ c) + 1 ≤ t + 1
    omega
  · show 4 ≤ n_row _ _ _ ∧ n_row _ _ _ ≤ 64
    unfold n_row
    split <;> omega
  · have := s4 h
    show s_ct (k_B σ c) + 1 ≤ n_row _ _ _
    unfold n_row
    split
    · omega
    · rename_i h9
      have : ¬ s_ro (k_B σ c) ≤ s_ct (k_B σ c) := fun h8 => h9 ⟨h, h8⟩
      omega
  · rcases h with h | h
    · exact absurd h hkd.1
    · exact absurd h hkd.2
  · obtain ⟨y1, y2, y3, y4, y5⟩ := I.on hc hf hy
    have he := (((I.cc y1).2.2.2.2.2 y2).2.2.2.2.2 (y4 y2)).1
    have e9 : k_B σ y = k_B σ c := by unfold k_B; rw [y3]
    rw [e9] at he
    show k_fs σ y + (k_ln σ y + 1) ≤ s_ct (k_B σ c) + 1
    omega
theorem iv.arr {how : Int32} (I : iv t σ) (ht : t + 1 ≤ 100000) (hc : c < k_m σ) (hf : k_fr σ c) (hkd : ¬ k_kd σ (k_bs σ c) = 4 ∧ ¬ k_kd σ (k_bs σ c) = 5) : iv (t + 1) (k_arr σ c how) ∧ k_fr (k_arr σ c how) c := by
  obtain ⟨s1, s2, s3, s4, s5, s6, s7⟩ := I.s hc
  refine I.thru hc hf ht (Nat.le_succ _) ⟨s1, ?_, s3, s4, s5, s6, fun h => ?_⟩ (Nat.lt_succ_self _) (fun a b h => h) (fun y hy => ?_)
  · show s_ch (k_B σ c) + 1 ≤ t + 1
    omega
  · rcases h with h | h
    · exact absurd h hkd.1
    · exact absurd h hkd.2
  · obtain ⟨y1, y2, y3, y4, y5⟩ := I.on hc hf hy
    have he := (((I.cc y1).2.2.2.2.2 y2).2.2.2.2.2 (y4 y2)).1
    have e9 : k_B σ y = k_B σ c := by unfold k_B; rw [y3]
    rw [e9] at he
    exact he
/-- a taking out within the container: it starts where it did, and has one less -/
theorem iv.take_sz (I : iv t σ) (hc : c < k_m σ) (hf : k_fr σ c) {j : Nat} (hj : j < k_size σ c) : k_start (k_take σ c (k_start σ c + j)) c = k_start σ c ∧ k_size (k_take σ c (k_start σ c + j)) c = k_size σ c - 1 := by
  have hk := k_thru_k I hc (S_take (k_B σ c) (k_start σ c + j)) (fun m => m - 1) c
  have hB := k_thru_B I hc (S_take (k_B σ c) (k_start σ c + j)) (fun m => m - 1) c
  rw [if_pos rfl] at hB
  have hend := I.end hc hf
  unfold k_take
  by_cases h6 : k_kd σ c = 6
  · have h6' : k_kd (k_thru σ c (S_take (k_B σ c) (k_start σ c + j)) (fun m => m - 1)) c = 6 := by rw [hk.1]; exact h6
    rw [k_start6 h6', k_size6 h6', hk.2.2.2.1, (k_thru_ln I hc _ _ ⟨h6, Or.inl rfl⟩).1, k_start6 h6, k_size6 h6]
    exact ⟨rfl, rfl⟩
  · by_cases h7 : k_kd σ c = 7
    · have h7' : k_kd (k_thru σ c (S_take (k_B σ c) (k_start σ c + j)) (fun m => m - 1)) c = 7 := by rw [hk.1]; exact h7
      rw [k_start7 h7', k_size7 h7', hB, hk.2.2.2.2.1, hk.2.2.2.2.2]
      have hs := (I.s hc).2.2.2.2.2.2 (Or.inl ((I.cc hc).2.2.2.2.1 h7))
      have hj2 : k_start σ c + j < s_ct (k_B σ c) := by omega
      have a1 := cnt_bel (s_nu (k_B σ c)) (k_lo σ c) 0 hj2
      have a2 := cnt_bel (s_nu (k_B σ c)) (k_hi σ c) 1 hj2
      have b1 : ¬ ym_bel (s_nu (k_B σ c)) (k_lo σ c) 0 (k_start σ c + j) = true := fun q => by
        have := (ym_cnt_lt (so_bel hs (k_lo σ c) 0) _ hj2).mpr q
        rw [← k_start7 h7] at this
        omega
      have hsz := k_size7 h7
      rw [← k_start7 h7] at hsz
      have b2 : ym_bel (s_nu (k_B σ c)) (k_hi σ c) 1 (k_start σ c + j) = true := (ym_cnt_lt (so_bel hs (k_hi σ c) 1) _ hj2).mp (by omega)
      rw [if_neg b1] at a1
      rw [if_pos b2] at a2
      have c1 : ym_cnt (ym_bel (s_nu (S_take (k_B σ c) (k_start σ c + j))) (k_lo σ c) 0) (s_ct (S_take (k_B σ c) (k_start σ c + j))) = k_start σ c := by
        rw [← k_start7 h7] at a1
        exact a1
      have c2 : ym_cnt (ym_bel (s_nu (S_take (k_B σ c) (k_start σ c + j))) (k_hi σ c) 1) (s_ct (S_take (k_B σ c) (k_start σ c + j))) + 1 = ym_cnt (ym_bel (s_nu (k_B σ c)) (k_hi σ c) 1) (s_ct (k_B σ c)) := a2
      rw [c1]
      exact ⟨rfl, by omega⟩
    · have h6' : ¬ k_kd (k_thru σ c (S_take (k_B σ c) (k_start σ c + j)) (fun m => m - 1)) c = 6 := by rw [hk.1]; exact h6
      have h7' : ¬ k_kd (k_thru σ c (S_take (k_B σ c) (k_start σ c + j)) (fun m => m - 1)) c = 7 := by rw [hk.1]; exact h7
      rw [k_start0 h6' h7', k_size0 h6' h7', hB, k_start0 h6 h7, k_size0 h6 h7]
      exact ⟨rfl, rfl⟩
end Pu2
end
section
/-! PART C4: bringing, taking, sorting, sifting, comparing through a container -/
/-- the places from j - 1 downwards whose numbers leave that rest are taken out -/
def k_sift (c : Nat) (by_ rest : Int32) : Nat → ks → ks × Nat
  | 0, σ => (σ, 0)
  | j + 1, σ => if ym_fm (s_nu (k_B σ c) (k_start σ c + j)) by_ = rest then ((k_sift c by_ rest j (k_take σ c (k_start σ c + j))).1, (k_sift c by_ rest j (k_take σ c (k_start σ c + j))).2 + 1) else k_sift c by_ rest j σ
theorem iv.at {t : Nat} {σ : ks} {c p : Nat} {key : Int32} (I : iv t σ) (hc : c < k_m σ) (h6 : ¬ k_kd σ c = 6) (h : k_at σ c key = some p) : p < s_ct (k_B σ c) ∧ k_start σ c ≤ p ∧ s_nu (k_B σ c) p = key ∧ k_cov σ c key = true := by
  unfold k_at at h
  split at h
  · rename_i hcv
    obtain ⟨-, h1, h2, -⟩ := f_pos_some h
    refine ⟨by omega, ?_, h2, hcv⟩
    by_cases h7 : k_kd σ c = 7
    · have hs := (I.s hc).2.2.2.2.2.2 (Or.inl ((I.cc hc).2.2.2.2.1 h7))
      rw [k_start7 h7]
      apply Nat.le_of_not_lt
      intro q
      have h3 := (so_lt hs (by omega)).mp q
      simp [k_cov, h7] at hcv
      rw [h2] at h3
      exact absurd hcv.1 (Int32.not_le.mpr h3)
    · rw [k_start0 h6 h7]
      exact Nat.zero_le _
  · cases h
theorem ym_back {a b : Nat} : nI a + (nI b - nI a) = nI b := by
  rw [Int32.add_comm, Int32.sub_add_cancel]
theorem k_pl_none {σ : ks} {c : Nat} {key : Int32} (h : k_at σ c key = none) : k_pl σ c key = -1 := by
  unfold k_pl
  rw [h]
theorem k_pl_some {t : Nat} {σ : ks} {c p : Nat} {key : Int32} (I : iv t σ) (hc : c < k_m σ) (h6 : ¬ k_kd σ c = 6) (h : k_at σ c key = some p) : k_pl σ c key = nI (p - k_start σ c) ∧ ¬ k_pl σ c key = -1 := by
  obtain ⟨h1, h2, -⟩ := I.at hc h6 h
  have h24 := I.ct hc
  have e : k_pl σ c key = nI (p - k_start σ c) := by
    unfold k_pl
    rw [h]
    exact pk_sub h2
  rw [e]
  exact ⟨rfl, ym_nm1 (by omega)⟩
def k_eqn (σ : ks) (c o : Nat) : Bool := decide (k_size σ c = k_size σ o) && decide (∀ i, i < k_size σ c → s_nu (k_B σ c) (k_start σ c + i) = s_nu (k_B σ o) (k_start σ o + i))
/-- a pair of one is one of the other -/
def k_has (σ : ks) (o : Nat) (key v : Int32) : Bool := match k_at σ o key with | none => false | some p => decide (v = s_vl (k_B σ o) p)
def k_eqp (σ : ks) (c o : Nat) : Bool := decide (k_size σ c = k_size σ o) && decide (∀ i, i < k_size σ c → k_has σ o (s_nu (k_B σ c) (k_start σ c + i)) (s_vl (k_B σ c) (k_start σ c + i)) = true)
set_option maxRecDepth 100000 in
set_option maxHeartbeats 4000000 in
theorem c_C_bring {l : Launch} {z : State} {a0 : Array Value} {D : va_G} {ca : kca} (X : kcx l z a0 D ca) {A : kA} {σ : ks} {t c : Nat} (I : iv t σ) (hc : c < k_m σ) {x y : Int32} {q : Nat} (hq : nI (k_start σ c) + x = nI q) (hq2 : q ≤ s_ct (k_B σ c)) (h24 : s_ct (k_B σ c) < 24) : yy_M l z y_C_bring (.code y_C_bring b_C_bring 3 none) ({ frames := 2, cells := 0, slots := 0, locals := 44 }) [.ref (a_ad A c), .int x, .int y] (ck_at D ca z A σ) (yy_pv (fun H H1 => ck_at D ca z A (k_bring σ c q y) H1 ∧ kpA A H H1)) := by
  refine yy_body (plainFor_of_name (by decide)) (Nat.le_of_ble_eq_true rfl) (fun b H F hS hP hH hnm => ?_)
  refine yy_aload_n F d_C_bring_0 (n := 1) rfl 0 rfl ?_
  refine cr_store F X g_C_15_G g_C_15_P g_C_15_R hP hc d_C_bring_1 (n := 4) rfl ?_
  refine yy_aload_n F d_C_bring_4 (n := 5) rfl 0 rfl ?_
  refine vd_start F X I hc hP hS q_453 ⟨by decide, by decide⟩ (by simp [Value.category]) d_C_bring_5 (n := 8) rfl ⟨Nat.le_refl _, Nat.le_refl _⟩ (fun _ hS_1 => ?_)
  refine yy_iload_n F d_C_bring_8 (n := 9) rfl 1 rfl ?_
  refine yy_iadd F d_C_bring_9 (n := 10) rfl ?_
  refine yy_iload_n F d_C_bring_10 (n := 11) rfl 2 rfl ?_
  refine yy_iconst (v := 0) F d_C_bring_11 (n := 12) rfl rfl ?_
  refine yy_thi (y := nI q) hq ?_
  refine yy_cv F hS_1 (c_S_bringIn (j := q) (x := y) (v := 0) X (I.ct hc) (hP.sok hc) hq2 h24) (yy_Bc F X.1 q_511 q_11) (yy_invV (nA := 3) (C := R_S) (bytes := b_S_bringIn) (maxL := 5) (retY := none) F X.1 q_508 q_509 q_510 q_511 ⟨by decide, by decide, by decide +kernel⟩ (yy_recv F.N X.2.1 (ci := 0) rfl (hP.sc hc).1) rfl d_C_bring_12) d_C_bring_12 (n := 15) rfl (by simp [Value.category]) ⟨by decide, by decide⟩ ⟨Nat.zero_le _, Nat.zero_le _⟩ ⟨rfl, rfl⟩ (hP.sc hc) (fun Hw_2 locs_w_2 qw_2 Sw_2 => ?_)
  obtain ⟨Qw_2, zw_2⟩ := qw_2
  have Rw_2 : sk_at D ca Hw_2 A (k_kd σ (k_bs σ c)) (k_bs σ c) (S_bring (k_kd σ (k_bs σ c)) (k_B σ c) q y 0) := (by have h9 := Qw_2; rw [n_row_eq (I.s hc).2.2.1.2 (I.ct hc), nI_1] at h9; exact h9)
  obtain ⟨Pw_2, kw_2⟩ := hP.putS (hP.ok.bs hc).1 (hP.ok.bs hc).2 Rw_2 zw_2
  have kw_2 := kpA.rf.tr kw_2
  refine yy_aload_n F d_C_bring_15 (n := 16) rfl 0 rfl ?_
  refine yy_iconst (v := 1) F d_C_bring_16 (n := 17) rfl rfl ?_
  refine vd_follow (σ := k_setS σ (k_bs σ c) (S_bring (k_kd σ (k_bs σ c)) (k_B σ c) q y 0)) (g := fun m => m + 1) F X hc Pw_2 Sw_2 q_513 ⟨I.hw, (k_chn_S σ _ _ _ _ _ _).mpr (k_chn_all (fun m => nI_1 m) _ _)⟩ ⟨by decide, by decide⟩ (by simp [Value.category]) d_C_bring_17 (n := 20) rfl ⟨Nat.zero_le _, Nat.zero_le _⟩ (fun Hw_3 locs_w_3 Pw_3 kw_3 Sw_3 => ?_)
  have kw_3 := kw_2.tr kw_3
  exact yy_vret F Sw_3 ⟨Nat.zero_le _, Nat.zero_le _⟩ rfl d_C_bring_20 (⟨rfl, Pw_3, kw_3⟩)
set_option maxRecDepth 100000 in
set_option maxHeartbeats 4000000 in
theorem c_C_take {l : Launch} {z : State} {a0 : Array Value} {D : va_G} {ca : kca} (X : kcx l z a0 D ca) {A : kA} {σ : ks} {t c : Nat} (I : iv t σ) (hc : c < k_m σ) {x : Int32} {q : Nat} (hq : nI (k_start σ c) + x = nI q) (hq2 : q < s_ct (k_B σ c)) (hf : k_fr σ c) (h1 : k_kd σ c = 6 → 1 ≤ k_ln σ c) : yy_M l z y_C_take (.code y_C_take b_C_take 3 (some .int)) ({ frames := 3, cells := 0, slots := 0, locals := 65 }) [.ref (a_ad A c), .int x] (ck_at D ca z A σ) (yy_pi (fun r H H1 => r = s_nu (k_B σ c) q ∧ ck_at D ca z A (k_take σ c q) H1 ∧ kpA A H H1)) := by
  refine yy_body (plainFor_of_name (by decide)) (Nat.le_of_ble_eq_true rfl) (fun b H F hS hP hH hnm => ?_)
  refine yy_aload_n F d_C_take_0 (n := 1) rfl 0 rfl ?_
  refine yy_iload_n F d_C_take_1 (n := 2) rfl 1 rfl ?_
  refine yy_cri (w := (s_nu (k_B σ c) q)) F hS (c_C_numberAt (A := A) (σ := σ) (c := c) X I hc hq hq2) (yy_Bc F X.1 q_452 q_9) (yy_invC (nA := 1) (x := y_C_numberAt) F X hP hc q_476 q_448 (k_dec X q_447 q_452) (k_sel q_451 q_449 q_450 σ c) q_447 ⟨by decide, by decide, by decide +kernel⟩ rfl d_C_take_2) d_C_take_2 (n := 5) rfl (by simp [Value.category]) ⟨by decide, by decide⟩ ⟨Nat.zero_le _, Nat.zero_le _⟩ ⟨rfl, rfl⟩ hP rfl (fun _ hS_1 => ?_)
  refine yy_istore_n (lv' := [(2, .int (s_nu (k_B σ c) q)), (0, .ref (a_ad A c)), (1, .int x)]) F d_C_take_5 (n := 6) rfl (by decide) rfl ?_
  refine yy_aload_n F d_C_take_6 (n := 7) rfl 1 rfl ?_
  refine cr_store F X g_C_15_G g_C_15_P g_C_15_R hP hc d_C_take_7 (n := 10) rfl ?_
  refine yy_aload_n F d_C_take_10 (n := 11) rfl 1 rfl ?_
  refine vd_start F X I hc hP hS_1 q_453 ⟨by decide, by decide⟩ (by simp [Value.category]) d_C_take_11 (n := 14) rfl ⟨Nat.le_refl _, Nat.le_refl _⟩ (fun _ hS_2 => ?_)
  refine yy_iload_n F d_C_take_14 (n := 15) rfl 2 rfl ?_
  refine yy_iadd F d_C_take_15 (n := 16) rfl ?_
  refine yy_tope (y := (nI q)) hq ?_
  refine yy_cv F hS_2 (c_S_takeOut (j := q) X (I.ct hc) (hP.sok hc) hq2) (yy_Bc F X.1 q_539 q_11) (yy_invV (nA := 1) (C := R_S) (bytes := b_S_takeOut) (maxL := 2) (retY := none) F X.1 q_536 q_537 q_538 q_539 ⟨by decide, by decide, by decide +kernel⟩ (yy_recv F.N X.2.1 (ci := 0) rfl (hP.sc hc).1) rfl d_C_take_16) d_C_take_16 (n := 19) rfl (by simp [Value.category]) ⟨by decide, by decide⟩ ⟨Nat.zero_le _, Nat.zero_le _⟩ ⟨rfl, rfl⟩ (hP.sc hc) (fun Hw_3 locs_w_3 qw_3 Sw_3 => ?_)
  obtain ⟨Qw_3, zw_3⟩ := qw_3
  have Rw_3 : sk_at D ca Hw_3 A (k_kd σ (k_bs σ c)) (k_bs σ c) (S_take (k_B σ c) q) := (by have h9 := Qw_3; rw [nI_1] at h9; exact h9)
  obtain ⟨Pw_3, kw_3⟩ := hP.putS (hP.ok.bs hc).1 (hP.ok.bs hc).2 Rw_3 zw_3
  have kw_3 := kpA.rf.tr kw_3
  refine yy_aload_n F d_C_take_19 (n := 20) rfl 1 rfl ?_
  refine yy_iconst (v := (-1)) F d_C_take_20 (n := 21) rfl rfl ?_
  refine vd_follow (σ := k_setS σ (k_bs σ c) (S_take (k_B σ c) q)) (g := fun m => m - 1) F X hc Pw_3 Sw_3 q_513 ⟨I.hw, (k_chn_S σ _ _ _ _ _ _).mpr (I.chn _ _ hc hf h1)⟩ ⟨by decide, by decide⟩ (by simp [Value.category]) d_C_take_21 (n := 24) rfl ⟨Nat.zero_le _, Nat.zero_le _⟩ (fun Hw_4 locs_w_4 Pw_4 kw_4 Sw_4 => ?_)
  have kw_4 := kw_3.tr kw_4
  refine yy_iload_n F d_C_take_24 (n := 25) rfl 0 rfl ?_
  exact yy_iret F Sw_4 ⟨Nat.zero_le _, Nat.zero_le _⟩ rfl d_C_take_25 (⟨_, rfl, rfl, Pw_4, kw_4⟩)
set_option maxRecDepth 100000 in
set_option maxHeartbeats 4000000 in
theorem c_C_arrange {l : Launch} {z : State} {a0 : Array Value} {D : va_G} {ca : kca} (X : kcx l z a0 D ca) {A : kA} {σ : ks} {t c : Nat} (I : iv t σ) (hc : c < k_m σ) {how : Int32} (hf : k_fr σ c) : yy_M l z y_C_arrange (.code y_C_arrange b_C_arrange 2 none) ({ frames := 3, cells := 0, slots := 0, locals := 70 }) [.ref (a_ad A c), .int how] (ck_at D ca z A σ) (yy_pv (fun H H1 => ck_at D ca z A (k_arr σ c how) H1 ∧ kpA A H H1)) := by
  refine yy_body (plainFor_of_name (by decide)) (Nat.le_of_ble_eq_true rfl) (fun b H F hS hP hH hnm => ?_)
  have h24 := I.ct hc
  have hend := I.end hc hf
  refine yy_aload_n F d_C_arrange_0 (n := 1) rfl 0 rfl ?_
  refine cr_store F X g_C_15_G g_C_15_P g_C_15_R hP hc d_C_arrange_1 (n := 4) rfl ?_
  refine yy_aload_n F d_C_arrange_4 (n := 5) rfl 0 rfl ?_
  refine vd_start F X I hc hP hS q_453 ⟨by decide, by decide⟩ (by simp [Value.category]) d_C_arrange_5 (n := 8) rfl ⟨Nat.le_refl _, Nat.le_refl _⟩ (fun _ hS_1 => ?_)
  refine yy_aload_n F d_C_arrange_8 (n := 9) rfl 0 rfl ?_
  refine vd_start F X I hc hP hS_1 q_453 ⟨by decide, by decide⟩ (by simp [Value.category]) d_C_arrange_9 (n := 12) rfl ⟨Nat.le_refl _, Nat.le_refl _⟩ (fun _ hS_2 => ?_)
  refine yy_aload_n F d_C_arrange_12 (n := 13) rfl 0 rfl ?_
  refine vd_count F X I hc hP hS_2 q_426 ⟨by decide, by decide⟩ (by simp [Value.category]) d_C_arrange_13 (n := 16) rfl ⟨Nat.le_refl _, Nat.le_refl _⟩ (fun _ hS_3 => ?_)
  refine yy_iadd F d_C_arrange_16 (n := 17) rfl ?_
  refine yy_iload_n F d_C_arrange_17 (n := 18) rfl 1 rfl ?_
  refine yy_sec (y := nI (k_start σ c + k_size σ c)) (nI_add _ _) ?_
  refine yy_cv F hS_3 (c_S_arrange (f0 := k_start σ c) (t0 := k_start σ c + k_size σ c) (how := how) X (I.ct hc) (hP.sok hc) (by omega) hend) (yy_Bc F X.1 q_561 q_11) (yy_invV (nA := 3) (C := R_S) (bytes := b_S_arrange) (maxL := 7) (retY := none) F X.1 q_558 q_559 q_560 q_561 ⟨by decide, by decide, by decide +kernel⟩ (yy_recv F.N X.2.1 (ci := 0) rfl (hP.sc hc).1) rfl d_C_arrange_18) d_C_arrange_18 (n := 21) rfl (by simp [Value.category]) ⟨by decide, by decide⟩ ⟨Nat.zero_le _, Nat.zero_le _⟩ ⟨rfl, rfl⟩ (hP.sc hc) (fun Hw_4 locs_w_4 qw_4 Sw_4 => ?_)
  obtain ⟨Qw_4, zw_4⟩ := qw_4
  have Rw_4 : sk_at D ca Hw_4 A (k_kd σ (k_bs σ c)) (k_bs σ c) (S_so (k_B σ c) (k_start σ c) (k_start σ c + k_size σ c) how) := (by have h9 := Qw_4; rw [nI_1] at h9; exact h9)
  obtain ⟨Pw_4, kw_4⟩ := hP.putS (hP.ok.bs hc).1 (hP.ok.bs hc).2 Rw_4 zw_4
  have kw_4 := kpA.rf.tr kw_4
  refine yy_aload_n F d_C_arrange_21 (n := 22) rfl 0 rfl ?_
  refine yy_iconst (v := 0) F d_C_arrange_22 (n := 23) rfl rfl ?_
  refine vd_follow (σ := k_setS σ (k_bs σ c) (S_so (k_B σ c) (k_start σ c) (k_start σ c + k_size σ c) how)) (g := fun m => m) F X hc Pw_4 Sw_4 q_513 ⟨I.hw, (k_chn_S σ _ _ _ _ _ _).mpr (k_chn_all (fun m => Int32.add_zero _) _ _)⟩ ⟨by decide, by decide⟩ (by simp [Value.category]) d_C_arrange_23 (n := 26) rfl ⟨Nat.zero_le _, Nat.zero_le _⟩ (fun Hw_5 locs_w_5 Pw_5 kw_5 Sw_5 => ?_)
  have kw_5 := kw_4.tr kw_5
  exact yy_vret F Sw_5 ⟨Nat.zero_le _, Nat.zero_le _⟩ rfl d_C_arrange_26 (⟨rfl, Pw_5, kw_5⟩)
set_option maxRecDepth 100000 in
set_option maxHeartbeats 4000000 in
theorem c_C_takeAll {l : Launch} {z : State} {a0 : Array Value} {D : va_G} {ca : kca} (X : kcx l z a0 D ca) {A : kA} {σ : ks} {t c : Nat} (I : iv t σ) (hc : c < k_m σ) {by_ rest : Int32} (hby : ¬ by_ < 1) (hf : k_fr σ c) (ht : t + 24 ≤ 100000) : yy_M l z y_C_takeAll (.code y_C_takeAll b_C_takeAll 5 (some .int)) ({ frames := 4, cells := 0, slots := 0, locals := 87 }) [.ref (a_ad A c), .int by_, .int rest] (ck_at D ca z A σ) (yy_pi (fun r H H1 => r = nI (k_sift c by_ rest (k_size σ c) σ).2 ∧ ck_at D ca z A ((k_sift c by_ rest (k_size σ c) σ).1) H1 ∧ kpA A H H1)) := by
  refine yy_body (plainFor_of_name (by decide)) (Nat.le_of_ble_eq_true rfl) (fun b H F hS hP hH hnm => ?_)
  have hb0 : ¬ by_ = 0 := fun h => hby (by rw [h]; decide)
  have loop : ∀ (j acc t1 : Nat) (σ1 : ks) (H1 : Heap) (locs : List Loc), iv t1 σ1 → t1 + j ≤ 100000 → c < k_m σ1 → k_fr σ1 c → j ≤ k_size σ1 c → (k_sift c by_ rest j σ1).1 = (k_sift c by_ rest (k_size σ c) σ).1 → acc + (k_sift c by_ rest j σ1).2 = (k_sift c by_ rest (k_size σ c) σ).2 → ck_at D ca z A σ1 H1 → kpA A H H1 → yy_S z H1 locs → yy_Y b H1 locs (0, 0) 17 [(4, .int (nI j - 1)), (3, .int (nI acc)), (0, .ref (a_ad A c)), (1, .int by_), (2, .int rest)] [] := by
    intro j
    induction j with
    | zero =>
      intro acc t1 σ1 H1 locs I1 ht1 hc1 hf1 hj hE hA P1 k1 S1
      refine yy_iload F d_C_takeAll_17 (n := 19) rfl 0 rfl ?_
      refine yy_if_lt_t (tgt := 52) F d_C_takeAll_19 (by decide) (by decide) ?_
      refine yy_iload_n F d_C_takeAll_52 (n := 53) rfl 1 rfl ?_
      exact yy_iret F S1 ⟨Nat.zero_le _, Nat.zero_le _⟩ rfl d_C_takeAll_53 (⟨_, rfl, by rw [← hA]; rfl, by rw [← hE]; exact P1, k1⟩)
    | succ j ih =>
      intro acc t1 σ1 H1 locs I1 ht1 hc1 hf1 hj hE hA P1 k1 S1
      rw [nI_pred j]
      have hend := I1.end hc1 hf1
      have h24 := I1.ct hc1
      refine yy_iload F d_C_takeAll_17 (n := 19) rfl 0 rfl ?_
      refine yy_if_lt_f (tgt := 52) F d_C_takeAll_19 (n := 22) rfl (by decide) (nI_pos (by omega)) ?_
      refine yy_aload_n F d_C_takeAll_22 (n := 23) rfl 2 rfl ?_
      refine yy_iload F d_C_takeAll_23 (n := 25) rfl 0 rfl ?_
      refine yy_cri (w := (s_nu (k_B σ1 c) (k_start σ1 c + j))) F S1 (c_C_numberAt (A := A) (σ := σ1) (c := c) X I1 hc1 (x := nI j) (q := k_start σ1 c + j) (nI_add _ _) (by omega)) (yy_Bc F X.1 q_452 q_9) (yy_invC (nA := 1) (x := y_C_numberAt) F X P1 hc1 q_476 q_448 (k_dec X q_447 q_452) (k_sel q_451 q_449 q_450 σ1 c) q_447 ⟨by decide, by decide, by decide +kernel⟩ rfl d_C_takeAll_25) d_C_takeAll_25 (n := 28) rfl (by simp [Value.category]) ⟨by decide, by decide⟩ ⟨Nat.zero_le _, Nat.zero_le _⟩ ⟨rfl, rfl⟩ P1 rfl (fun _ hS_1 => ?_)
      refine yy_iload_n F d_C_takeAll_28 (n := 29) rfl 3 rfl ?_
      refine yy_cri (w := (ym_fm (s_nu (k_B σ1 c) (k_start σ1 c + j)) by_)) F hS_1 (c_X_floorMod (x := s_nu (k_B σ1 c) (k_start σ1 c + j)) (y := by_) X hb0) (yy_Bc F X.1 q_568 q_14) (yy_invS (nA := 2) (bytes := b_X_floorMod) (maxL := 3) (retY := (some .int)) F X.1 q_734 q_567 q_14 q_568 ⟨by decide, by decide, by decide +kernel⟩ rfl d_C_takeAll_29) d_C_takeAll_29 (n := 32) rfl (by simp [Value.category]) ⟨by decide, by decide⟩ ⟨Nat.le_refl _, Nat.le_refl _⟩ ⟨rfl, rfl⟩ trivial rfl (fun _ hS_2 => ?_)
      refine yy_iload_n F d_C_takeAll_32 (n := 33) rfl 4 rfl ?_
      refine yy_ic_ne (tgt := 46) F d_C_takeAll_33 (n := 36) rfl (by decide) (fun h1 => ?_) (fun h1 => ?_)
      · have hS1 : k_sift c by_ rest (j + 1) σ1 = k_sift c by_ rest j σ1 := if_neg h1
        rw [hS1] at hE hA
        obtain ⟨i_3, e_i_3⟩ : ∃ y : Int32, y = (nI j) + (-1) := ⟨_, rfl⟩
        refine yy_iinc (v := i_3) (lv' := [(4, .int i_3), (3, .int (nI acc)), (0, .ref (a_ad A c)), (1, .int by_), (2, .int rest)]) F d_C_takeAll_46 (n := 49) rfl 0 rfl (by rw [e_i_3]; rfl) (by decide) rfl ?_
        refine yy_goto (tgt := 17) F d_C_takeAll_49 (by decide) ?_
        rw [show i_3 = nI j - 1 by rw [e_i_3, Int32.sub_eq_add_neg]]
        exact yy_sub [0, 1, 2, 3, 4] rfl (ih acc t1 σ1 H1 _ I1 (by omega) hc1 hf1 (by omega) hE hA P1 k1 hS_2)
      · have hS1 : k_sift c by_ rest (j + 1) σ1 = ((k_sift c by_ rest j (k_take σ1 c (k_start σ1 c + j))).1, (k_sift c by_ rest j (k_take σ1 c (k_start σ1 c + j))).2 + 1) := if_pos h1
        rw [hS1] at hE hA
        have h1t : k_kd σ1 c = 6 → 1 ≤ k_ln σ1 c := fun h => by rw [← k_size6 h]; omega
        obtain ⟨I2, f2⟩ := I1.take (q := k_start σ1 c + j) (by omega) hc1 hf1 (by omega) h1t
        obtain ⟨-, z2⟩ := I1.take_sz hc1 hf1 (j := j) (by omega)
        have m2 : k_m (k_take σ1 c (k_start σ1 c + j)) = k_m σ1 := (k_thru_C I1 hc1 _ _).1
        refine yy_aload_n F d_C_takeAll_36 (n := 37) rfl 2 rfl ?_
        refine yy_iload F d_C_takeAll_37 (n := 39) rfl 0 rfl ?_
        refine yy_ci F hS_2 (c_C_take (A := A) (σ := σ1) (c := c) X I1 hc1 (x := nI j) (q := k_start σ1 c + j) (nI_add _ _) (by omega) hf1 h1t) (yy_Bc F X.1 q_535 q_9) (yy_invC (nA := 1) (x := y_C_take) F X P1 hc1 q_735 q_531 (k_dec X q_530 q_535) (k_sel q_534 q_532 q_533 σ1 c) q_530 ⟨by decide, by decide, by decide +kernel⟩ rfl d_C_takeAll_39) d_C_takeAll_39 (n := 42) rfl (by simp [Value.category]) ⟨by decide, by decide⟩ ⟨Nat.zero_le _, Nat.zero_le _⟩ ⟨rfl, rfl⟩ P1 (fun r_w_4 Hw_4 locs_w_4 qw_4 Sw_4 => ?_)
        obtain ⟨ew_4, Pw_4, kw_4⟩ := qw_4
        rw [ew_4]
        have kw_4 := k1.tr kw_4
        refine yy_pop F d_C_takeAll_42 (n := 43) rfl rfl ?_
        refine yy_iinc (v := nI (acc + 1)) (lv' := [(3, .int (nI (acc + 1))), (4, .int (nI j)), (0, .ref (a_ad A c)), (1, .int by_), (2, .int rest)]) F d_C_takeAll_43 (n := 46) rfl 1 rfl (nI_1 _) (by decide) rfl ?_
        obtain ⟨i_5, e_i_5⟩ : ∃ y : Int32, y = (nI j) + (-1) := ⟨_, rfl⟩
        refine yy_iinc (v := i_5) (lv' := [(4, .int i_5), (3, .int (nI (acc + 1))), (0, .ref (a_ad A c)), (1, .int by_), (2, .int rest)]) F d_C_takeAll_46 (n := 49) rfl 1 rfl (by rw [e_i_5]; rfl) (by decide) rfl ?_
        refine yy_goto (tgt := 17) F d_C_takeAll_49 (by decide) ?_
        rw [show i_5 = nI j - 1 by rw [e_i_5, Int32.sub_eq_add_neg]]
        exact yy_sub [0, 1, 2, 3, 4] rfl (ih (acc + 1) (t1 + 1) _ _ _ I2 (by omega) (by rw [m2]; exact hc1) f2 (by omega) hE (by rw [← hA]; omega) Pw_4 kw_4 Sw_4)
  refine yy_iload_n F d_C_takeAll_0 (n := 1) rfl 1 rfl ?_
  refine yy_iconst (v := 1) F d_C_takeAll_1 (n := 2) rfl rfl ?_
  refine yy_ic_ge_t (tgt := 7) F d_C_takeAll_2 (by decide) (Int32.not_lt.mp hby) ?_
  refine yy_iconst (v := 0) F d_C_takeAll_7 (n := 8) rfl rfl ?_
  refine yy_istore_n (lv' := [(3, .int 0), (0, .ref (a_ad A c)), (1, .int by_), (2, .int rest)]) F d_C_takeAll_8 (n := 9) rfl (by decide) rfl ?_
  refine yy_aload_n F d_C_takeAll_9 (n := 10) rfl 1 rfl ?_
  refine vd_count F X I hc hP hS q_426 ⟨by decide, by decide⟩ (by simp [Value.category]) d_C_takeAll_10 (n := 13) rfl ⟨Nat.le_refl _, Nat.le_refl _⟩ (fun _ hS_6 => ?_)
  refine yy_iconst (v := 1) F d_C_takeAll_13 (n := 14) rfl rfl ?_
  refine yy_isub F d_C_takeAll_14 (n := 15) rfl ?_
  refine yy_istore (lv' := [(4, .int ((nI (k_size σ c)) - 1)), (3, .int 0), (0, .ref (a_ad A c)), (1, .int by_), (2, .int rest)]) F d_C_takeAll_15 (n := 17) rfl (by decide) rfl ?_
  have h24 := I.ct hc
  have hend := I.end hc hf
  exact yy_sub [0, 1, 2, 3, 4] rfl (loop (k_size σ c) 0 t σ H _ I (by omega) hc hf (Nat.le_refl _) rfl (Nat.zero_add _) hP kpA.rf hS_6)
set_option maxRecDepth 100000 in
set_option maxHeartbeats 4000000 in
theorem c_C_hasNumbersOf {l : Launch} {z : State} {a0 : Array Value} {D : va_G} {ca : kca} (X : kcx l z a0 D ca) {A : kA} {σ : ks} {t c : Nat} (I : iv t σ) (hc : c < k_m σ) {o : Nat} (ho : o < k_m σ) (hf : k_fr σ c) (hfo : k_fr σ o) : yy_M l z y_C_hasNumbersOf (.code y_C_hasNumbersOf b_C_hasNumbersOf 4 (some .boolean)) ({ frames := 3, cells := 0, slots := 0, locals := 65 }) [.ref (a_ad A c), .ref (a_ad A o)] (ck_at D ca z A σ) (yy_ri (ym_n (k_eqn σ c o))) := by
  refine yy_body (plainFor_of_name (by decide)) (Nat.le_of_ble_eq_true rfl) (fun b H F hS hP hH hnm => ?_)
  have h24 := I.ct hc
  have hend := I.end hc hf
  have h24o := I.ct ho
  have hendo := I.end ho hfo
  refine yy_aload_n F d_C_hasNumbersOf_0 (n := 1) rfl 0 rfl ?_
  refine vd_count F X I hc hP hS q_426 ⟨by decide, by decide⟩ (by simp [Value.category]) d_C_hasNumbersOf_1 (n := 4) rfl ⟨Nat.le_refl _, Nat.le_refl _⟩ (fun _ hS_1 => ?_)
  refine yy_istore_n (lv' := [(2, .int (nI (k_size σ c))), (0, .ref (a_ad A c)), (1, .ref (a_ad A o))]) F d_C_hasNumbersOf_4 (n := 5) rfl (by decide) rfl ?_
  refine yy_iload_n F d_C_hasNumbersOf_5 (n := 6) rfl 0 rfl ?_
  refine yy_aload_n F d_C_hasNumbersOf_6 (n := 7) rfl 2 rfl ?_
  refine vd_count F X I ho hP hS_1 q_426 ⟨by decide, by decide⟩ (by simp [Value.category]) d_C_hasNumbersOf_7 (n := 10) rfl ⟨Nat.le_refl _, Nat.le_refl _⟩ (fun _ hS_2 => ?_)
  refine yy_ic_eq (tgt := 15) F d_C_hasNumbersOf_10 (n := 13) rfl (by decide) (fun h1 => ?_) (fun h1 => ?_)
  · have hz := (nI_eq (a := k_size σ c) (b := k_size σ o) (by omega) (by omega)).mp h1
    refine yy_iconst (v := 0) F d_C_hasNumbersOf_15 (n := 16) rfl rfl ?_
    refine yy_istore_n (lv' := [(3, .int 0), (2, .int (nI (k_size σ c))), (0, .ref (a_ad A c)), (1, .ref (a_ad A o))]) F d_C_hasNumbersOf_16 (n := 17) rfl (by decide) rfl ?_
    have loop : ∀ (d i : Nat) (locs : List Loc), i + d = k_size σ c → (∀ j, j < i → s_nu (k_B σ c) (k_start σ c + j) = s_nu (k_B σ o) (k_start σ o + j)) → yy_S z H locs → yy_Y b H locs (0, 0) 17 [(3, .int (nI i)), (2, .int (nI (k_size σ c))), (0, .ref (a_ad A c)), (1, .ref (a_ad A o))] [] := by
      intro d
      induction d with
      | zero =>
        intro i locs hi ha S1
        refine yy_iload_n F d_C_hasNumbersOf_17 (n := 18) rfl 0 rfl ?_
        refine yy_iload_n F d_C_hasNumbersOf_18 (n := 19) rfl 1 rfl ?_
        refine yy_ic_ge_t (tgt := 43) F d_C_hasNumbersOf_19 (by decide) (nI_le (by omega) (by omega)) ?_
        refine yy_iconst (v := 1) F d_C_hasNumbersOf_43 (n := 44) rfl rfl ?_
        exact yy_zret F S1 ⟨Nat.zero_le _, Nat.zero_le _⟩ rfl rfl d_C_hasNumbersOf_44 (⟨_, rfl, by rw [show k_eqn σ c o = true by unfold k_eqn; rw [decide_eq_true hz, decide_eq_true (fun j hj => ha j (by omega))]; rfl]; rfl, rfl⟩)
      | succ d ih =>
        intro i locs hi ha S1
        refine yy_iload_n F d_C_hasNumbersOf_17 (n := 18) rfl 0 rfl ?_
        refine yy_iload_n F d_C_hasNumbersOf_18 (n := 19) rfl 1 rfl ?_
        refine yy_ic_ge_f (tgt := 43) F d_C_hasNumbersOf_19 (n := 22) rfl (by decide) (nI_ge (by omega) (by omega)) ?_
        refine yy_aload_n F d_C_hasNumbersOf_22 (n := 23) rfl 2 rfl ?_
        refine yy_iload_n F d_C_hasNumbersOf_23 (n := 24) rfl 0 rfl ?_
        refine yy_cri (w := (s_nu (k_B σ c) (k_start σ c + i))) F S1 (c_C_numberAt (A := A) (σ := σ) (c := c) X I hc (x := nI i) (q := k_start σ c + i) (nI_add _ _) (by omega)) (yy_Bc F X.1 q_452 q_9) (yy_invC (nA := 1) (x := y_C_numberAt) F X hP hc q_476 q_448 (k_dec X q_447 q_452) (k_sel q_451 q_449 q_450 σ c) q_447 ⟨by decide, by decide, by decide +kernel⟩ rfl d_C_hasNumbersOf_24) d_C_hasNumbersOf_24 (n := 27) rfl (by simp [Value.category]) ⟨by decide, by decide⟩ ⟨Nat.zero_le _, Nat.zero_le _⟩ ⟨rfl, rfl⟩ hP rfl (fun _ hS_3 => ?_)
        refine yy_aload_n F d_C_hasNumbersOf_27 (n := 28) rfl 3 rfl ?_
        refine yy_iload_n F d_C_hasNumbersOf_28 (n := 29) rfl 0 rfl ?_
        refine yy_cri (w := (s_nu (k_B σ o) (k_start σ o + i))) F hS_3 (c_C_numberAt (A := A) (σ := σ) (c := o) X I ho (x := nI i) (q := k_start σ o + i) (nI_add _ _) (by omega)) (yy_Bc F X.1 q_452 q_9) (yy_invC (nA := 1) (x := y_C_numberAt) F X hP ho q_476 q_448 (k_dec X q_447 q_452) (k_sel q_451 q_449 q_450 σ o) q_447 ⟨by decide, by decide, by decide +kernel⟩ rfl d_C_hasNumbersOf_29) d_C_hasNumbersOf_29 (n := 32) rfl (by simp [Value.category]) ⟨by decide, by decide⟩ ⟨Nat.zero_le _, Nat.zero_le _⟩ ⟨rfl, rfl⟩ hP rfl (fun _ hS_4 => ?_)
        refine yy_ic_eq (tgt := 37) F d_C_hasNumbersOf_32 (n := 35) rfl (by decide) (fun h2 => ?_) (fun h2 => ?_)
        · refine yy_iinc (v := nI (i + 1)) (lv' := [(3, .int (nI (i + 1))), (2, .int (nI (k_size σ c))), (0, .ref (a_ad A c)), (1, .ref (a_ad A o))]) F d_C_hasNumbersOf_37 (n := 40) rfl 0 rfl (nI_1 _) (by decide) rfl ?_
          refine yy_goto (tgt := 17) F d_C_hasNumbersOf_40 (by decide) ?_
          exact yy_sub [0, 1, 2, 3] rfl (ih (i + 1) _ (by omega) (fun j hj => by
            by_cases hji : j = i
            · subst hji
              exact h2
            · exact ha j (by omega)) hS_4)
        · refine yy_iconst (v := 0) F d_C_hasNumbersOf_35 (n := 36) rfl rfl ?_
          exact yy_zret F hS_4 ⟨Nat.zero_le _, Nat.zero_le _⟩ rfl rfl d_C_hasNumbersOf_36 (⟨_, rfl, by rw [show k_eqn σ c o = false by unfold k_eqn; rw [decide_eq_true hz, decide_eq_false (fun q9 => h2 (q9 i (by omega)))]; rfl]; rfl, rfl⟩)
    exact yy_sub [0, 1, 2, 3] rfl (loop (k_size σ c) 0 _ (by omega) (fun j hj => by omega) hS_2)
  · refine yy_iconst (v := 0) F d_C_hasNumbersOf_13 (n := 14) rfl rfl ?_
    exact yy_zret F hS_2 ⟨Nat.zero_le _, Nat.zero_le _⟩ rfl rfl d_C_hasNumbersOf_14 (⟨_, rfl, by rw [show k_eqn σ c o = false by unfold k_eqn; rw [decide_eq_false (fun q9 => h1 (by rw [q9]))]; rfl]; rfl, rfl⟩)
set_option maxRecDepth 100000 in
set_option maxHeartbeats 4000000 in
theorem c_C_hasPairsOf {l : Launch} {z : State} {a0 : Array Value} {D : va_G} {ca : kca} (X : kcx l z a0 D ca) {A : kA} {σ : ks} {t c : Nat} (I : iv t σ) (hc : c < k_m σ) {o : Nat} (ho : o < k_m σ) (hf : k_fr σ c) (hfo : k_fr σ o) (h6 : ¬ k_kd σ o = 6) : yy_M l z y_C_hasPairsOf (.code y_C_hasPairsOf b_C_hasPairsOf 5 (some .boolean)) ({ frames := 3, cells := 0, slots := 0, locals := 65 }) [.ref (a_ad A c), .ref (a_ad A o)] (ck_at D ca z A σ) (yy_ri (ym_n (k_eqp σ c o))) := by
  refine yy_body (plainFor_of_name (by decide)) (Nat.le_of_ble_eq_true rfl) (fun b H F hS hP hH hnm => ?_)
  have h24 := I.ct hc
  have hend := I.end hc hf
  have h24o := I.ct ho
  have hendo := I.end ho hfo
  refine yy_aload_n F d_C_hasPairsOf_0 (n := 1) rfl 0 rfl ?_
  refine vd_count F X I hc hP hS q_426 ⟨by decide, by decide⟩ (by simp [Value.category]) d_C_hasPairsOf_1 (n := 4) rfl ⟨Nat.le_refl _, Nat.le_refl _⟩ (fun _ hS_1 => ?_)
  refine yy_istore_n (lv' := [(2, .int (nI (k_size σ c))), (0, .ref (a_ad A c)), (1, .ref (a_ad A o))]) F d_C_hasPairsOf_4 (n := 5) rfl (by decide) rfl ?_
  refine yy_iload_n F d_C_hasPairsOf_5 (n := 6) rfl 0 rfl ?_
  refine yy_aload_n F d_C_hasPairsOf_6 (n := 7) rfl 2 rfl ?_
  refine vd_count F X I ho hP hS_1 q_426 ⟨by decide, by decide⟩ (by simp [Value.category]) d_C_hasPairsOf_7 (n := 10) rfl ⟨Nat.le_refl _, Nat.le_refl _⟩ (fun _ hS_2 => ?_)
  refine yy_ic_eq (tgt := 15) F d_C_hasPairsOf_10 (n := 13) rfl (by decide) (fun h1 => ?_) (fun h1 => ?_)
  · have hz := (nI_eq (a := k_size σ c) (b := k_size σ o) (by omega) (by omega)).mp h1
    refine yy_iconst (v := 0) F d_C_hasPairsOf_15 (n := 16) rfl rfl ?_
    refine yy_istore_n (lv' := [(3, .int 0), (2, .int (nI (k_size σ c))), (0, .ref (a_ad A c)), (1, .ref (a_ad A o))]) F d_C_hasPairsOf_16 (n := 17) rfl (by decide) rfl ?_
    have loop : ∀ (d i : Nat) (locs : List Loc), i + d = k_size σ c → (∀ j, j < i → k_has σ o (s_nu (k_B σ c) (k_start σ c + j)) (s_vl (k_B σ c) (k_start σ c + j)) = true) → yy_S z H locs → yy_Y b H locs (0, 0) 17 [(3, .int (nI i)), (2, .int (nI (k_size σ c))), (0, .ref (a_ad A c)), (1, .ref (a_ad A o))] [] := by
      intro d
      induction d with
      | zero =>
        intro i locs hi ha S1
        refine yy_iload_n F d_C_hasPairsOf_17 (n := 18) rfl 0 rfl ?_
        refine yy_iload_n F d_C_hasPairsOf_18 (n := 19) rfl 1 rfl ?_
        refine yy_ic_ge_t (tgt := 61) F d_C_hasPairsOf_19 (by decide) (nI_le (by omega) (by omega)) ?_
        refine yy_iconst (v := 1) F d_C_hasPairsOf_61 (n := 62) rfl rfl ?_
        exact yy_zret F S1 ⟨Nat.zero_le _, Nat.zero_le _⟩ rfl rfl d_C_hasPairsOf_62 (⟨_, rfl, by rw [show k_eqp σ c o = true by unfold k_eqp; rw [decide_eq_true hz, decide_eq_true (fun j hj => ha j (by omega))]; rfl]; rfl, rfl⟩)
      | succ d ih =>
        intro i locs hi ha S1
        refine yy_iload_n F d_C_hasPairsOf_17 (n := 18) rfl 0 rfl ?_
        refine yy_iload_n F d_C_hasPairsOf_18 (n := 19) rfl 1 rfl ?_
        refine yy_ic_ge_f (tgt := 61) F d_C_hasPairsOf_19 (n := 22) rfl (by decide) (nI_ge (by omega) (by omega)) ?_
        refine yy_aload_n F d_C_hasPairsOf_22 (n := 23) rfl 3 rfl ?_
        refine yy_aload_n F d_C_hasPairsOf_23 (n := 24) rfl 2 rfl ?_
        refine yy_iload_n F d_C_hasPairsOf_24 (n := 25) rfl 0 rfl ?_
        refine yy_cri (w := (s_nu (k_B σ c) (k_start σ c + i))) F S1 (c_C_numberAt (A := A) (σ := σ) (c := c) X I hc (x := nI i) (q := k_start σ c + i) (nI_add _ _) (by omega)) (yy_Bc F X.1 q_452 q_9) (yy_invC (nA := 1) (x := y_C_numberAt) F X hP hc q_476 q_448 (k_dec X q_447 q_452) (k_sel q_451 q_449 q_450 σ c) q_447 ⟨by decide, by decide, by decide +kernel⟩ rfl d_C_hasPairsOf_25) d_C_hasPairsOf_25 (n := 28) rfl (by simp [Value.category]) ⟨by decide, by decide⟩ ⟨Nat.zero_le _, Nat.zero_le _⟩ ⟨rfl, rfl⟩ hP rfl (fun _ hS_3 => ?_)
        refine yy_cri (w := (k_pl σ o (s_nu (k_B σ c) (k_start σ c + i)))) F hS_3 (c_C_placeOf (A := A) (σ := σ) (c := o) (key := s_nu (k_B σ c) (k_start σ c + i)) X I ho) (yy_Bc F X.1 q_614 q_9) (yy_invC (nA := 1) (x := y_C_placeOf) F X hP ho q_757 q_610 (k_dec X q_609 q_614) (k_sel q_613 q_611 q_612 σ o) q_609 ⟨by decide, by decide, by decide +kernel⟩ rfl d_C_hasPairsOf_28) d_C_hasPairsOf_28 (n := 31) rfl (by simp [Value.category]) ⟨by decide, by decide⟩ ⟨Nat.zero_le _, Nat.zero_le _⟩ ⟨rfl, rfl⟩ hP rfl (fun _ hS_4 => ?_)
        refine yy_istore (lv' := [(4, .int (k_pl σ o (s_nu (k_B σ c) (k_start σ c + i)))), (3, .int (nI i)), (2, .int (nI (k_size σ c))), (0, .ref (a_ad A c)), (1, .ref (a_ad A o))]) F d_C_hasPairsOf_31 (n := 33) rfl (by decide) rfl ?_
        refine yy_iload F d_C_hasPairsOf_33 (n := 35) rfl 0 rfl ?_
        refine yy_iconst (v := (-1)) F d_C_hasPairsOf_35 (n := 36) rfl rfl ?_
        cases hat : k_at σ o (s_nu (k_B σ c) (k_start σ c + i)) with
        | none =>
          rw [k_pl_none hat]
          refine yy_ic_eq_t (tgt := 53) F d_C_hasPairsOf_36 (by decide) rfl ?_
          refine yy_iconst (v := 0) F d_C_hasPairsOf_53 (n := 54) rfl rfl ?_
          exact yy_zret F hS_4 ⟨Nat.zero_le _, Nat.zero_le _⟩ rfl rfl d_C_hasPairsOf_54 (⟨_, rfl, by rw [show k_eqp σ c o = false by unfold k_eqp; rw [decide_eq_true hz, decide_eq_false (fun q9 => by have h8 := q9 i (by omega); unfold k_has at h8; rw [hat] at h8; cases h8)]; rfl]; rfl, rfl⟩)
        | some pp =>
          obtain ⟨a1, a2, -⟩ := I.at ho h6 hat
          obtain ⟨b1, b2⟩ := k_pl_some I ho h6 hat
          refine yy_ic_eq_f (tgt := 53) F d_C_hasPairsOf_36 (n := 39) rfl (by decide) b2 ?_
          refine yy_aload_n F d_C_hasPairsOf_39 (n := 40) rfl 3 rfl ?_
          refine yy_iload_n F d_C_hasPairsOf_40 (n := 41) rfl 1 rfl ?_
          refine yy_cri (w := (s_vl (k_B σ c) (k_start σ c + i))) F hS_4 (c_C_valueAt (A := A) (σ := σ) (c := c) X I hc (x := nI i) (q := k_start σ c + i) (nI_add _ _) (by omega)) (yy_Bc F X.1 q_653 q_9) (yy_invC (nA := 1) (x := y_C_valueAt) F X hP hc q_758 q_649 (k_dec X q_648 q_653) (k_sel q_652 q_650 q_651 σ c) q_648 ⟨by decide, by decide, by decide +kernel⟩ rfl d_C_hasPairsOf_41) d_C_hasPairsOf_41 (n := 44) rfl (by simp [Value.category]) ⟨by decide, by decide⟩ ⟨Nat.zero_le _, Nat.zero_le _⟩ ⟨rfl, rfl⟩ hP rfl (fun _ hS_5 => ?_)
          refine yy_aload_n F d_C_hasPairsOf_44 (n := 45) rfl 4 rfl ?_
          refine yy_iload F d_C_hasPairsOf_45 (n := 47) rfl 0 rfl ?_
          refine yy_cri (w := (s_vl (k_B σ o) pp)) F hS_5 (c_C_valueAt (A := A) (σ := σ) (c := o) X I ho (x := k_pl σ o (s_nu (k_B σ c) (k_start σ c + i))) (q := pp) (by rw [b1, nI_add, Nat.add_sub_cancel' a2]) a1) (yy_Bc F X.1 q_653 q_9) (yy_invC (nA := 1) (x := y_C_valueAt) F X hP ho q_758 q_649 (k_dec X q_648 q_653) (k_sel q_652 q_650 q_651 σ o) q_648 ⟨by decide, by decide, by decide +kernel⟩ rfl d_C_hasPairsOf_47) d_C_hasPairsOf_47 (n := 50) rfl (by simp [Value.category]) ⟨by decide, by decide⟩ ⟨Nat.zero_le _, Nat.zero_le _⟩ ⟨rfl, rfl⟩ hP rfl (fun _ hS_6 => ?_)
          refine yy_ic_eq (tgt := 55) F d_C_hasPairsOf_50 (n := 53) rfl (by decide) (fun h2 => ?_) (fun h2 => ?_)
          · refine yy_iinc (v := nI (i + 1)) (lv' := [(3, .int (nI (i + 1))), (4, .int (k_pl σ o (s_nu (k_B σ c) (k_start σ c + i)))), (2, .int (nI (k_size σ c))), (0, .ref (a_ad A c)), (1, .ref (a_ad A o))]) F d_C_hasPairsOf_55 (n := 58) rfl 1 rfl (nI_1 _) (by decide) rfl ?_
            refine yy_goto (tgt := 17) F d_C_hasPairsOf_58 (by decide) ?_
            exact yy_sub [0, 2, 3, 4] rfl (ih (i + 1) _ (by omega) (fun j hj => by
              by_cases hji : j = i
              · subst hji
                unfold k_has
                rw [hat]
                exact decide_eq_true h2
              · exact ha j (by omega)) hS_6)
          · refine yy_iconst (v := 0) F d_C_hasPairsOf_53 (n := 54) rfl rfl ?_
            exact yy_zret F hS_6 ⟨Nat.zero_le _, Nat.zero_le _⟩ rfl rfl d_C_hasPairsOf_54 (⟨_, rfl, by rw [show k_eqp σ c o = false by unfold k_eqp; rw [decide_eq_true hz, decide_eq_false (fun q9 => h2 (by have h8 := q9 i (by omega); unfold k_has at h8; rw [hat] at h8; exact of_decide_eq_true h8))]; rfl]; rfl, rfl⟩)
    exact yy_sub [0, 1, 2, 3] rfl (loop (k_size σ c) 0 _ (by omega) (fun j hj => by omega) hS_2)
  · refine yy_iconst (v := 0) F d_C_hasPairsOf_13 (n := 14) rfl rfl ?_
    exact yy_zret F hS_2 ⟨Nat.zero_le _, Nat.zero_le _⟩ rfl rfl d_C_hasPairsOf_14 (⟨_, rfl, by rw [show k_eqp σ c o = false by unfold k_eqp; rw [decide_eq_false (fun q9 => h1 (by rw [q9]))]; rfl]; rfl, rfl⟩)
end
section
/-! PART pic3: changes of an iterator -/
section Pic3
variable {D : va_G} {ca : kca} {z : State} {A : kA} {σ : ks} {H H1 : Heap} {i c : Nat}
theorem ck_at.wo (P : ck_at D ca z A σ H) (hi : i < 4) (hov : (k_W σ i).1 = some c) : va_at D kcl (a_wd A i, .inr (4, [.ref (a_ad A c), .int (nI (k_W σ i).2.1), .int (k_W σ i).2.2.1, .int (nI (k_W σ i).2.2.2)])) H := by
  have h := P.w hi
  unfold wk_at at h
  rw [hov] at h
  exact h
theorem ck_at.putW (P : ck_at D ca z A σ H) (hi : i < 4) {w : kW} (O : va_at D kcl (a_wd A i, .inr (4, [va_rf (w.1.map (a_ad A)), .int (nI w.2.1), .int w.2.2.1, .int (nI w.2.2.2)])) H1) (e2 : H1.size = H.size) (e3 : ∀ q : Nat, q ≠ a_wd A i → H1[q]? = H[q]?) : ck_at D ca z A (k_setW σ i w) H1 ∧ kpA A H H1 := by
  have hox := P.ok.wd hi
  have hm := P.ok.m10
  obtain ⟨p, a1, a2, a3, a4, a5, a6⟩ := P
  have no : ∀ q, a_ow A q ≠ 4 + i → q ≠ a_wd A i := fun q hq h => hq (by rw [h]; exact hox)
  refine ⟨⟨p.to rfl (fun y => rfl) (Nat.le_of_eq e2.symm), a1.kept (e3 _ (no _ (by rw [p.1]; omega))), a2.kept (e3 _ (no _ (by rw [p.2.1]; omega))), a3.kept (e3 _ (no _ (by rw [p.2.2.1]; omega))), fun j hj => ?_, fun c hc => va_at.kept (a5 c hc) (e3 _ (no _ (by show a_ow A (a_ad A c) ≠ _; rw [p.ad hc]; omega))), fun b hb e => ?_⟩, ⟨Nat.le_of_eq e2.symm, fun q _ h0 => e3 q (no q (by omega))⟩⟩
  · by_cases e : j = i
    · subst e
      unfold wk_at k_W k_setW
      dsimp only
      rw [up1_s]
      exact O
    · have h9 := a4 j hj
      unfold wk_at k_W k_setW at *
      dsimp only
      rw [up1_o _ _ e]
      exact va_at.kept h9 (e3 _ (no _ (by show a_ow A (a_wd A j) ≠ _; rw [p.wd hj]; omega)))
  · have hb9 : b < k_m σ := hb
    have e9 : k_bs σ b = b := e
    obtain ⟨f1, f2, f3⟩ := p.st hb9 e9
    obtain ⟨o1, o2, o3⟩ := a6 b hb9 e9
    exact ⟨va_at.kept o1 (e3 _ (no _ (by show a_ow A (a_sa A b) ≠ _; omega))), va_at.kept o2 (e3 _ (no _ (by show a_ow A (a_na A b) ≠ _; omega))), va_at.kept o3 (e3 _ (no _ (by show a_ow A (a_va A b) ≠ _; omega)))⟩
theorem k_setW2 (σ : ks) (i : Nat) (w w' : kW) : k_setW (k_setW σ i w) i w' = k_setW σ i w' := by
  unfold k_setW
  dsimp only
  rw [up1_up1]
theorem k_setW_s (σ : ks) (i : Nat) (w : kW) : k_W (k_setW σ i w) i = w := up1_s _ _ _
/-- an iterator's state is stale -/
def k_lost (σ : ks) (i c : Nat) : Bool := k_stale σ c || decide (¬ (k_W σ i).2.2.2 = s_ch (k_B σ c))
end Pic3
section Cr3
variable {l : Launch} {z : State} {b : yy_T} {rm : Room} {cc : ByteArray} {nL : Nat} {own : String} {ret : Option FieldType} {hh : List (Nat × Nat × Nat × Nat)} {Post : yy_R → Heap → Prop}
variable {H : Heap} {locs : List Loc} {k : Nat × Nat} {pc n : Nat} {lv lv' : List (Nat × Value)} {st : List Value}
variable {a0 : Array Value} {D : va_G} {ca : kca} {A : kA} {σ : ks} {i c idx : Nat} {v : Int32}
theorem cr_wo (F : yy_A l z b rm cc nL own ret hh Post) (X : kcx l z a0 D ca) (G : yy_G lw_tbl kcl own idx 4 0) (P : ck_at D ca z A σ H) (hi : i < 4) (hS : yy_S z H locs) (d : decode cc pc = .ok (.putfield idx, 3)) (hn : pc + 3 = n)
    (kk : ∀ (H1 : Heap) (locs1 : List Loc), ck_at D ca z A (k_setW σ i (some c, (k_W σ i).2)) H1 → kpA A H H1 → yy_S z H1 locs1 → yy_Y b H1 locs1 k n lv st) : yy_Y b H locs k pc lv (.ref (a_ad A c) :: .ref (a_wd A i) :: st) := by
  refine yy_put F X.1 X.2.1 G gt_W (fun C T N h => by cases h; rfl) hS (P.ok.zz (by rw [P.ok.wd hi]; omega)) (P.w hi) rfl rfl (Nat.le_of_ble_eq_true rfl) d hn (fun H1 locs1 O e2 e3 hS1 => ?_)
  have h9 := P.putW (w := (some c, (k_W σ i).2)) hi O e2 e3
  exact kk H1 locs1 h9.1 h9.2 hS1
theorem cr_wp (F : yy_A l z b rm cc nL own ret hh Post) (X : kcx l z a0 D ca) (G : yy_G lw_tbl kcl own idx 4 1) (P : ck_at D ca z A σ H) (hi : i < 4) (hS : yy_S z H locs) {m : Nat} (hv : v = nI m) (d : decode cc pc = .ok (.putfield idx, 3)) (hn : pc + 3 = n)
    (kk : ∀ (H1 : Heap) (locs1 : List Loc), ck_at D ca z A (k_setW σ i ((k_W σ i).1, m, (k_W σ i).2.2)) H1 → kpA A H H1 → yy_S z H1 locs1 → yy_Y b H1 locs1 k n lv st) : yy_Y b H locs k pc lv (.int v :: .ref (a_wd A i) :: st) := by
  subst hv
  refine yy_put F X.1 X.2.1 G gt_W (fun C T N h => by cases h; rfl) hS (P.ok.zz (by rw [P.ok.wd hi]; omega)) (P.w hi) rfl rfl (Nat.le_of_ble_eq_true rfl) d hn (fun H1 locs1 O e2 e3 hS1 => ?_)
  have h9 := P.putW (w := ((k_W σ i).1, m, (k_W σ i).2.2)) hi O e2 e3
  exact kk H1 locs1 h9.1 h9.2 hS1
theorem cr_wl (F : yy_A l z b rm cc nL own ret hh Post) (X : kcx l z a0 D ca) (G : yy_G lw_tbl kcl own idx 4 2) (P : ck_at D ca z A σ H) (hi : i < 4) (hS : yy_S z H locs) (d : decode cc pc = .ok (.putfield idx, 3)) (hn : pc + 3 = n)
    (kk : ∀ (H1 : Heap) (locs1 : List Loc), ck_at D ca z A (k_setW σ i ((k_W σ i).1, (k_W σ i).2.1, v, (k_W σ i).2.2.2)) H1 → kpA A H H1 → yy_S z H1 locs1 → yy_Y b H1 locs1 k n lv st) : yy_Y b H locs k pc lv (.int v :: .ref (a_wd A i) :: st) := by
  refine yy_put F X.1 X.2.1 G gt_W (fun C T N h => by cases h; rfl) hS (P.ok.zz (by rw [P.ok.wd hi]; omega)) (P.w hi) rfl rfl (Nat.le_of_ble_eq_true rfl) d hn (fun H1 locs1 O e2 e3 hS1 => ?_)
  have h9 := P.putW (w := ((k_W σ i).1, (k_W σ i).2.1, v, (k_W σ i).2.2.2)) hi O e2 e3
  exact kk H1 locs1 h9.1 h9.2 hS1
theorem cr_ws (F : yy_A l z b rm cc nL own ret hh Post) (X : kcx l z a0 D ca) (G : yy_G lw_tbl kcl own idx 4 3) (P : ck_at D ca z A σ H) (hi : i < 4) (hS : yy_S z H locs) {m : Nat} (hv : v = nI m) (d : decode cc pc = .ok (.putfield idx, 3)) (hn : pc + 3 = n)
    (kk : ∀ (H1 : Heap) (locs1 : List Loc), ck_at D ca z A (k_setW σ i ((k_W σ i).1, (k_W σ i).2.1, (k_W σ i).2.2.1, m)) H1 → kpA A H H1 → yy_S z H1 locs1 → yy_Y b H1 locs1 k n lv st) : yy_Y b H locs k pc lv (.int v :: .ref (a_wd A i) :: st) := by
  subst hv
  refine yy_put F X.1 X.2.1 G gt_W (fun C T N h => by cases h; rfl) hS (P.ok.zz (by rw [P.ok.wd hi]; omega)) (P.w hi) rfl rfl (Nat.le_of_ble_eq_true rfl) d hn (fun H1 locs1 O e2 e3 hS1 => ?_)
  have h9 := P.putW (w := ((k_W σ i).1, (k_W σ i).2.1, (k_W σ i).2.2.1, m)) hi O e2 e3
  exact kk H1 locs1 h9.1 h9.2 hS1
end Cr3
end
section
/-! PART W1: iterators -/
set_option maxRecDepth 100000 in
set_option maxHeartbeats 4000000 in
theorem c_W_isStale {l : Launch} {z : State} {a0 : Array Value} {D : va_G} {ca : kca} (X : kcx l z a0 D ca) {A : kA} {σ : ks} {t c i : Nat} (I : iv t σ) (hc : c < k_m σ) (hi : i < 4) (hov : (k_W σ i).1 = some c) : yy_M l z y_W_isStale (.code y_W_isStale b_W_isStale 1 (some .boolean)) ({ frames := 1, cells := 0, slots := 0, locals := 20 }) [.ref (a_wd A i)] (ck_at D ca z A σ) (yy_ri (ym_n (k_lost σ i c))) := by
  refine yy_body (plainFor_of_name (by decide)) (Nat.le_of_ble_eq_true rfl) (fun b H F hS hP hH hnm => ?_)
  have hkn := ((I.2.2.2.2 i hi).2 c hov).2.2.1
  have hch := I.ch hc
  have hq : nI (k_W σ i).2.2.2 = nI (s_ch (k_B σ c)) ↔ (k_W σ i).2.2.2 = s_ch (k_B σ c) := nI_eq (by omega) (by omega)
  refine yy_aload_n F d_W_isStale_0 (n := 1) rfl 0 rfl ?_
  refine yy_get F X.1 X.2.1 g_W_9_W (hP.wo hi hov) rfl d_W_isStale_1 (n := 4) rfl ?_
  refine yy_ifnull_f F d_W_isStale_4 (n := 7) rfl ?_
  refine yy_aload_n F d_W_isStale_7 (n := 8) rfl 0 rfl ?_
  refine yy_get F X.1 X.2.1 g_W_9_W (hP.wo hi hov) rfl d_W_isStale_8 (n := 11) rfl ?_
  refine vd_isStale F X I hc hP hS q_798 ⟨by decide, by decide⟩ (by simp [Value.category]) d_W_isStale_11 (n := 14) rfl ⟨Nat.le_refl _, Nat.le_refl _⟩ (fun _ hS_1 => ?_)
  cases hb1 : k_stale σ c
  · refine yy_if_ne_f (tgt := 34) F d_W_isStale_14 (n := 17) rfl (by decide) rfl ?_
    refine yy_aload_n F d_W_isStale_17 (n := 18) rfl 0 rfl ?_
    refine yy_get F X.1 X.2.1 g_W_22_W (hP.wo hi hov) rfl d_W_isStale_18 (n := 21) rfl ?_
    refine yy_aload_n F d_W_isStale_21 (n := 22) rfl 0 rfl ?_
    refine yy_get F X.1 X.2.1 g_W_9_W (hP.wo hi hov) rfl d_W_isStale_22 (n := 25) rfl ?_
    refine cr_store F X g_W_29_G g_W_29_P g_W_29_R hP hc d_W_isStale_25 (n := 28) rfl ?_
    refine yy_get F X.1 X.2.1 g_W_35_S (hP.sc hc).1 rfl d_W_isStale_28 (n := 31) rfl ?_
    refine yy_ic_eq (tgt := 38) F d_W_isStale_31 (n := 34) rfl (by decide) (fun h1 => ?_) (fun h1 => ?_)
    · refine yy_iconst (v := 0) F d_W_isStale_38 (n := 39) rfl rfl ?_
      exact yy_zret F hS_1 ⟨Nat.zero_le _, Nat.zero_le _⟩ rfl rfl d_W_isStale_39 (⟨_, rfl, by simp [k_lost, hb1, ym_n, hq.mp h1], rfl⟩)
    · refine yy_iconst (v := 1) F d_W_isStale_34 (n := 35) rfl rfl ?_
      refine yy_goto (tgt := 39) F d_W_isStale_35 (by decide) ?_
      exact yy_zret F hS_1 ⟨Nat.zero_le _, Nat.zero_le _⟩ rfl rfl d_W_isStale_39 (⟨_, rfl, by simp [k_lost, hb1, ym_n, mt hq.mpr h1], rfl⟩)
  · refine yy_if_ne_t (tgt := 34) F d_W_isStale_14 (by decide) (by decide) ?_
    refine yy_iconst (v := 1) F d_W_isStale_34 (n := 35) rfl rfl ?_
    refine yy_goto (tgt := 39) F d_W_isStale_35 (by decide) ?_
    exact yy_zret F hS_1 ⟨Nat.zero_le _, Nat.zero_le _⟩ rfl rfl d_W_isStale_39 (⟨_, rfl, by simp [k_lost, hb1, ym_n], rfl⟩)
set_option maxRecDepth 100000 in
set_option maxHeartbeats 4000000 in
theorem c_W_standAt {l : Launch} {z : State} {a0 : Array Value} {D : va_G} {ca : kca} (X : kcx l z a0 D ca) {A : kA} {σ : ks} {c i : Nat} (hc : c < k_m σ) (hi : i < 4) {m : Nat} (hov : (k_W σ i).1 = some c) : yy_M l z y_W_standAt (.code y_W_standAt b_W_standAt 2 none) ({ frames := 0, cells := 0, slots := 0, locals := 0 }) [.ref (a_wd A i), .int (nI m)] (ck_at D ca z A σ) (yy_pv (fun H H1 => ck_at D ca z A (k_setW σ i (some c, m, -1, s_ch (k_B σ c))) H1 ∧ kpA A H H1)) := by
  refine yy_body (plainFor_of_name (by decide)) (Nat.le_of_ble_eq_true rfl) (fun b H F hS hP hH hnm => ?_)
  refine yy_aload_n F d_W_standAt_0 (n := 1) rfl 0 rfl ?_
  refine yy_get F X.1 X.2.1 g_W_9_W (hP.wo hi hov) rfl d_W_standAt_1 (n := 4) rfl ?_
  refine yy_ifnull_f F d_W_standAt_4 (n := 7) rfl ?_
  refine yy_aload_n F d_W_standAt_7 (n := 8) rfl 0 rfl ?_
  refine yy_iload_n F d_W_standAt_8 (n := 9) rfl 1 rfl ?_
  refine cr_wp F X g_W_15_W hP hi hS rfl d_W_standAt_9 (n := 12) rfl (fun Hw_1 locs_w_1 Pw_1 kw_1 Sw_1 => ?_)
  have kw_1 := kpA.rf.tr kw_1
  have Pw_1 : ck_at D ca z A (k_setW σ i ((k_W σ i).1, m, (k_W σ i).2.2)) Hw_1 := Pw_1
  refine yy_aload_n F d_W_standAt_12 (n := 13) rfl 0 rfl ?_
  refine yy_iconst (v := (-1)) F d_W_standAt_13 (n := 14) rfl rfl ?_
  refine cr_wl F X g_W_19_W Pw_1 hi Sw_1 d_W_standAt_14 (n := 17) rfl (fun Hw_2 locs_w_2 Pw_2 kw_2 Sw_2 => ?_)
  have kw_2 := kw_1.tr kw_2
  rw [k_setW2, k_setW_s] at Pw_2
  have Pw_2 : ck_at D ca z A (k_setW σ i ((k_W σ i).1, m, -1, (k_W σ i).2.2.2)) Hw_2 := Pw_2
  refine yy_aload_n F d_W_standAt_17 (n := 18) rfl 0 rfl ?_
  refine yy_aload_n F d_W_standAt_18 (n := 19) rfl 0 rfl ?_
  refine yy_get F X.1 X.2.1 g_W_9_W (Pw_2.wo hi (by rw [k_setW_s]; exact hov)) rfl d_W_standAt_19 (n := 22) rfl ?_
  refine cr_store F X g_W_29_G g_W_29_P g_W_29_R Pw_2 (show c < k_m (k_setW σ i ((k_W σ i).1, m, -1, (k_W σ i).2.2.2)) from hc) d_W_standAt_22 (n := 25) rfl ?_
  refine yy_get F X.1 X.2.1 g_W_35_S (Pw_2.sc (show c < k_m (k_setW σ i ((k_W σ i).1, m, -1, (k_W σ i).2.2.2)) from hc)).1 rfl d_W_standAt_25 (n := 28) rfl ?_
  refine cr_ws F X g_W_22_W Pw_2 hi Sw_2 rfl d_W_standAt_28 (n := 31) rfl (fun Hw_3 locs_w_3 Pw_3 kw_3 Sw_3 => ?_)
  have kw_3 := kw_2.tr kw_3
  rw [k_setW2, k_setW_s] at Pw_3
  have Pw_3 : ck_at D ca z A (k_setW σ i ((k_W σ i).1, m, -1, s_ch (k_B σ c))) Hw_3 := Pw_3
  exact yy_vret F Sw_3 ⟨Nat.zero_le _, Nat.zero_le _⟩ rfl d_W_standAt_31 (⟨rfl, by rw [hov] at Pw_3; exact Pw_3, kw_3⟩)
set_option maxRecDepth 100000 in
set_option maxHeartbeats 4000000 in
theorem c_W_begin {l : Launch} {z : State} {a0 : Array Value} {D : va_G} {ca : kca} (X : kcx l z a0 D ca) {A : kA} {σ : ks} {c i : Nat} (hc : c < k_m σ) (hi : i < 4)  : yy_M l z y_W_begin (.code y_W_begin b_W_begin 2 none) ({ frames := 1, cells := 0, slots := 0, locals := 21 }) [.ref (a_wd A i), .ref (a_ad A c)] (ck_at D ca z A σ) (yy_pv (fun H H1 => ck_at D ca z A (k_setW σ i (some c, 0, -1, s_ch (k_B σ c))) H1 ∧ kpA A H H1)) := by
  refine yy_body (plainFor_of_name (by decide)) (Nat.le_of_ble_eq_true rfl) (fun b H F hS hP hH hnm => ?_)
  refine yy_aload_n F d_W_begin_0 (n := 1) rfl 0 rfl ?_
  refine yy_aload_n F d_W_begin_1 (n := 2) rfl 1 rfl ?_
  refine cr_wo F X g_W_9_W hP hi hS d_W_begin_2 (n := 5) rfl (fun Hw_1 locs_w_1 Pw_1 kw_1 Sw_1 => ?_)
  have kw_1 := kpA.rf.tr kw_1
  have Pw_1 : ck_at D ca z A (k_setW σ i (some c, (k_W σ i).2)) Hw_1 := Pw_1
  refine yy_aload_n F d_W_begin_5 (n := 6) rfl 0 rfl ?_
  refine yy_iconst (v := 0) F d_W_begin_6 (n := 7) rfl rfl ?_
  refine yy_cv F Sw_1 (c_W_standAt (A := A) (σ := k_setW σ i (some c, (k_W σ i).2)) (c := c) (i := i) (m := 0) X hc hi (by rw [k_setW_s])) (yy_Bc F X.1 q_778 q_2) (yy_invV (nA := 1) (C := R_W) (bytes := b_W_standAt) (maxL := 2) (retY := none) F X.1 q_775 q_776 q_777 q_778 ⟨by decide, by decide, by decide +kernel⟩ (yy_recv F.N X.2.1 (ci := 4) rfl (Pw_1.w hi)) rfl d_W_begin_7) d_W_begin_7 (n := 10) rfl (by simp [Value.category]) ⟨by decide, by decide⟩ ⟨Nat.zero_le _, Nat.zero_le _⟩ ⟨rfl, rfl⟩ Pw_1 (fun Hw_2 locs_w_2 qw_2 Sw_2 => ?_)
  obtain ⟨Pw_2, kw_2⟩ := qw_2
  have kw_2 := kw_1.tr kw_2
  rw [k_setW2] at Pw_2
  exact yy_vret F Sw_2 ⟨Nat.zero_le _, Nat.zero_le _⟩ rfl d_W_begin_10 (⟨rfl, Pw_2, kw_2⟩)
set_option maxRecDepth 100000 in
set_option maxHeartbeats 4000000 in
theorem c_W_goOver {l : Launch} {z : State} {a0 : Array Value} {D : va_G} {ca : kca} (X : kcx l z a0 D ca) {A : kA} {σ : ks} {i : Nat} (hi : i < 4) {j : Nat} {e : Int32} : yy_M l z y_W_goOver (.code y_W_goOver b_W_goOver 3 none) ({ frames := 0, cells := 0, slots := 0, locals := 0 }) [.ref (a_wd A i), .int (nI j), .int e] (ck_at D ca z A σ) (yy_pv (fun H H1 => ck_at D ca z A (k_setW σ i ((k_W σ i).1, if e = 0 then j else j + 1, nI j, (k_W σ i).2.2.2)) H1 ∧ kpA A H H1)) := by
  refine yy_body (plainFor_of_name (by decide)) (Nat.le_of_ble_eq_true rfl) (fun b H F hS hP hH hnm => ?_)
  refine yy_aload_n F d_W_goOver_0 (n := 1) rfl 0 rfl ?_
  refine yy_iload_n F d_W_goOver_1 (n := 2) rfl 2 rfl ?_
  refine yy_if_eq (tgt := 11) F d_W_goOver_2 (n := 5) rfl (by decide) (fun h1 => ?_) (fun h1 => ?_)
  · refine yy_iload_n F d_W_goOver_11 (n := 12) rfl 1 rfl ?_
    refine cr_wp F X g_W_15_W hP hi hS (m := j) (rfl) d_W_goOver_12 (n := 15) rfl (fun Hw_1 locs_w_1 Pw_1 kw_1 Sw_1 => ?_)
    have kw_1 := kpA.rf.tr kw_1
    have Pw_1 : ck_at D ca z A (k_setW σ i ((k_W σ i).1, j, (k_W σ i).2.2)) Hw_1 := Pw_1
    refine yy_aload_n F d_W_goOver_15 (n := 16) rfl 0 rfl ?_
    refine yy_iload_n F d_W_goOver_16 (n := 17) rfl 1 rfl ?_
    refine cr_wl F X g_W_19_W Pw_1 hi Sw_1 d_W_goOver_17 (n := 20) rfl (fun Hw_2 locs_w_2 Pw_2 kw_2 Sw_2 => ?_)
    have kw_2 := kw_1.tr kw_2
    rw [k_setW2, k_setW_s] at Pw_2
    have Pw_2 : ck_at D ca z A (k_setW σ i ((k_W σ i).1, j, nI j, (k_W σ i).2.2.2)) Hw_2 := Pw_2
    exact yy_vret F Sw_2 ⟨Nat.zero_le _, Nat.zero_le _⟩ rfl d_W_goOver_20 (⟨rfl, by rw [if_pos h1]; exact Pw_2, kw_2⟩)
  · refine yy_iload_n F d_W_goOver_5 (n := 6) rfl 1 rfl ?_
    refine yy_iconst (v := 1) F d_W_goOver_6 (n := 7) rfl rfl ?_
    refine yy_iadd F d_W_goOver_7 (n := 8) rfl ?_
    refine yy_goto (tgt := 12) F d_W_goOver_8 (by decide) ?_
    refine cr_wp F X g_W_15_W hP hi hS (m := j + 1) (nI_1 _) d_W_goOver_12 (n := 15) rfl (fun Hw_3 locs_w_3 Pw_3 kw_3 Sw_3 => ?_)
    have kw_3 := kpA.rf.tr kw_3
    have Pw_3 : ck_at D ca z A (k_setW σ i ((k_W σ i).1, j + 1, (k_W σ i).2.2)) Hw_3 := Pw_3
    refine yy_aload_n F d_W_goOver_15 (n := 16) rfl 0 rfl ?_
    refine yy_iload_n F d_W_goOver_16 (n := 17) rfl 1 rfl ?_
    refine cr_wl F X g_W_19_W Pw_3 hi Sw_3 d_W_goOver_17 (n := 20) rfl (fun Hw_4 locs_w_4 Pw_4 kw_4 Sw_4 => ?_)
    have kw_4 := kw_3.tr kw_4
    rw [k_setW2, k_setW_s] at Pw_4
    have Pw_4 : ck_at D ca z A (k_setW σ i ((k_W σ i).1, j + 1, nI j, (k_W σ i).2.2.2)) Hw_4 := Pw_4
    exact yy_vret F Sw_4 ⟨Nat.zero_le _, Nat.zero_le _⟩ rfl d_W_goOver_20 (⟨rfl, by rw [if_neg h1]; exact Pw_4, kw_4⟩)
end
section
/-! PART K1: the kit's demands and lookups -/
theorem ym_in_or {x : Int32} {n : Nat} (hn : n ≤ 10) (h : ¬ ym_in x n) : x < 0 ∨ ¬ x < 0 ∧ ¬ x < 10 ∨ ∃ j : Nat, x = nI j ∧ n ≤ j ∧ j < 10 := by
  by_cases h0 : x < 0
  · exact Or.inl h0
  · by_cases h1 : x < 10
    · obtain ⟨j, hj, rfl⟩ := ym_held (n := 10) (by decide) h0 h1
      exact Or.inr (Or.inr ⟨j, rfl, by apply Nat.le_of_not_lt; intro q; exact h (ym_in.of q (by omega)), hj⟩)
    · exact Or.inr (Or.inl ⟨h0, h1⟩)
set_option maxRecDepth 100000 in
set_option maxHeartbeats 4000000 in
theorem c_K_containerAt {l : Launch} {z : State} {a0 : Array Value} {D : va_G} {ca : kca} (X : kcx l z a0 D ca) {A : kA} {σ : ks} {t : Nat} (I : iv t σ) {c : Nat} (hc : c < k_m σ) : yy_M l z y_K_containerAt (.code y_K_containerAt b_K_containerAt 2 (some (.object "ContainerKit$Container"))) ({ frames := 0, cells := 0, slots := 0, locals := 0 }) [.ref (a_k A), .int (nI c)] (ck_at D ca z A σ) (yy_rr (some (a_ad A c))) := by
  refine yy_body (plainFor_of_name (by decide)) (Nat.le_of_ble_eq_true rfl) (fun b H F hS hP hH hnm => ?_)
  have h10 := I.m10
  have hrow : k_row A σ (nI c).toNatClampNeg = some (a_ad A c) := by rw [nI_clamp (by omega)]; exact if_pos hc
  refine yy_iload_n F d_K_containerAt_0 (n := 1) rfl 1 rfl ?_
  refine yy_if_lt_f (tgt := 22) F d_K_containerAt_1 (n := 4) rfl (by decide) (nI_pos (by omega)) ?_
  refine yy_iload_n F d_K_containerAt_4 (n := 5) rfl 1 rfl ?_
  refine yy_aload_n F d_K_containerAt_5 (n := 6) rfl 0 rfl ?_
  refine yy_get F X.1 X.2.1 g_K_11_K hP.k rfl d_K_containerAt_6 (n := 9) rfl ?_
  refine yy_alen F X.2.1 1 rfl hP.ka (x := 10) rfl d_K_containerAt_9 (n := 10) rfl ?_
  refine yy_ic_ge_f (tgt := 22) F d_K_containerAt_10 (n := 13) rfl (by decide) (nI_ge (b := 10) (by omega) (by omega)) ?_
  refine yy_aload_n F d_K_containerAt_13 (n := 14) rfl 0 rfl ?_
  refine yy_get F X.1 X.2.1 g_K_11_K hP.k rfl d_K_containerAt_14 (n := 17) rfl ?_
  refine yy_iload_n F d_K_containerAt_17 (n := 18) rfl 1 rfl ?_
  refine yy_aald F X.2.1 1 rfl hP.ka (vp_in_nI (by omega) (by decide)) d_K_containerAt_18 (n := 19) rfl ?_
  rw [show k_row A σ (nI c).toNatClampNeg = some (a_ad A c) from hrow]
  refine yy_ifnonnull_t (tgt := 32) F d_K_containerAt_19 (by decide) ?_
  refine yy_aload_n F d_K_containerAt_32 (n := 33) rfl 0 rfl ?_
  refine yy_get F X.1 X.2.1 g_K_11_K hP.k rfl d_K_containerAt_33 (n := 36) rfl ?_
  refine yy_iload_n F d_K_containerAt_36 (n := 37) rfl 1 rfl ?_
  refine yy_aald F X.2.1 1 rfl hP.ka (vp_in_nI (by omega) (by decide)) d_K_containerAt_37 (n := 38) rfl ?_
  rw [show k_row A σ (nI c).toNatClampNeg = some (a_ad A c) from hrow]
  exact yy_aret F hS ⟨Nat.zero_le _, Nat.zero_le _⟩ rfl (Or.inr ⟨_, rfl⟩) d_K_containerAt_38 (⟨some _, rfl, rfl, rfl⟩)
set_option maxRecDepth 100000 in
set_option maxHeartbeats 4000000 in
theorem c_K_containerAt_no {l : Launch} {z : State} {a0 : Array Value} {D : va_G} {ca : kca} (X : kcx l z a0 D ca) {A : kA} {σ : ks} {t : Nat} (I : iv t σ) {x : Int32} (hx : ¬ ym_in x (k_m σ)) : yy_M l z y_K_containerAt (.code y_K_containerAt b_K_containerAt 2 (some (.object "ContainerKit$Container"))) ({ frames := 6, cells := 1, slots := 6, locals := 82 }) [.ref (a_k A), .int x] (ck_at D ca z A σ) (yy_tx "java/lang/IndexOutOfBoundsException") := by
  refine yy_body (plainFor_of_name (by decide)) (Nat.le_of_ble_eq_true rfl) (fun b H F hS hP hH hnm => ?_)
  have h10 := I.m10
  rcases ym_in_or h10 hx with h | ⟨h0, h1⟩ | ⟨j, rfl, hj, hj2⟩
  · refine yy_iload_n F d_K_containerAt_0 (n := 1) rfl 1 rfl ?_
    refine yy_if_lt_t (tgt := 22) F d_K_containerAt_1 (by decide) h ?_
    refine yy_clean hH ?_
    obtain ⟨sa, hsa⟩ := str_197 X
    exact yy_throwS F X.1 X.2.2.2 (cls := "java/lang/IndexOutOfBoundsException") (names := ["java/lang/RuntimeException", "java/lang/Exception"]) (by decide +kernel) (by decide +kernel) q_238 q_12 hsa (yy_hat X F.N oa_199) hH ⟨by decide, by decide⟩ ⟨by decide, by decide⟩ d_K_containerAt_22 d_K_containerAt_25 d_K_containerAt_26 d_K_containerAt_28 d_K_containerAt_31 (fun H1 hx => ⟨rfl, hx⟩)
  · refine yy_iload_n F d_K_containerAt_0 (n := 1) rfl 1 rfl ?_
    refine yy_if_lt_f (tgt := 22) F d_K_containerAt_1 (n := 4) rfl (by decide) h0 ?_
    refine yy_iload_n F d_K_containerAt_4 (n := 5) rfl 1 rfl ?_
    refine yy_aload_n F d_K_containerAt_5 (n := 6) rfl 0 rfl ?_
    refine yy_get F X.1 X.2.1 g_K_11_K hP.k rfl d_K_containerAt_6 (n := 9) rfl ?_
    refine yy_alen F X.2.1 1 rfl hP.ka (x := 10) rfl d_K_containerAt_9 (n := 10) rfl ?_
    refine yy_ic_ge_t (tgt := 22) F d_K_containerAt_10 (by decide) (Int32.not_lt.mp h1) ?_
    refine yy_clean hH ?_
    obtain ⟨sa, hsa⟩ := str_197 X
    exact yy_throwS F X.1 X.2.2.2 (cls := "java/lang/IndexOutOfBoundsException") (names := ["java/lang/RuntimeException", "java/lang/Exception"]) (by decide +kernel) (by decide +kernel) q_238 q_12 hsa (yy_hat X F.N oa_199) hH ⟨by decide, by decide⟩ ⟨by decide, by decide⟩ d_K_containerAt_22 d_K_containerAt_25 d_K_containerAt_26 d_K_containerAt_28 d_K_containerAt_31 (fun H1 hx => ⟨rfl, hx⟩)
  · refine yy_iload_n F d_K_containerAt_0 (n := 1) rfl 1 rfl ?_
    refine yy_if_lt_f (tgt := 22) F d_K_containerAt_1 (n := 4) rfl (by decide) (nI_pos (by omega)) ?_
    refine yy_iload_n F d_K_containerAt_4 (n := 5) rfl 1 rfl ?_
    refine yy_aload_n F d_K_containerAt_5 (n := 6) rfl 0 rfl ?_
    refine yy_get F X.1 X.2.1 g_K_11_K hP.k rfl d_K_containerAt_6 (n := 9) rfl ?_
    refine yy_alen F X.2.1 1 rfl hP.ka (x := 10) rfl d_K_containerAt_9 (n := 10) rfl ?_
    refine yy_ic_ge_f (tgt := 22) F d_K_containerAt_10 (n := 13) rfl (by decide) (nI_ge (b := 10) (by omega) (by omega)) ?_
    refine yy_aload_n F d_K_containerAt_13 (n := 14) rfl 0 rfl ?_
    refine yy_get F X.1 X.2.1 g_K_11_K hP.k rfl d_K_containerAt_14 (n := 17) rfl ?_
    refine yy_iload_n F d_K_containerAt_17 (n := 18) rfl 1 rfl ?_
    refine yy_aald F X.2.1 1 rfl hP.ka (vp_in_nI (by omega) (by decide)) d_K_containerAt_18 (n := 19) rfl ?_
    rw [show k_row A σ (nI j).toNatClampNeg = none from by rw [nI_clamp (by omega)]; exact if_neg (by omega)]
    refine yy_ifnonnull_f F d_K_containerAt_19 (n := 22) rfl ?_
    refine yy_clean hH ?_
    obtain ⟨sa, hsa⟩ := str_197 X
    exact yy_throwS F X.1 X.2.2.2 (cls := "java/lang/IndexOutOfBoundsException") (names := ["java/lang/RuntimeException", "java/lang/Exception"]) (by decide +kernel) (by decide +kernel) q_238 q_12 hsa (yy_hat X F.N oa_199) hH ⟨by decide, by decide⟩ ⟨by decide, by decide⟩ d_K_containerAt_22 d_K_containerAt_25 d_K_containerAt_26 d_K_containerAt_28 d_K_containerAt_31 (fun H1 hx => ⟨rfl, hx⟩)
set_option maxRecDepth 100000 in
set_option maxHeartbeats 4000000 in
theorem c_K_walkAt {l : Launch} {z : State} {a0 : Array Value} {D : va_G} {ca : kca} (X : kcx l z a0 D ca) {A : kA} {σ : ks} {t : Nat} (I : iv t σ) {i : Nat} (hi : i < 4) : yy_M l z y_K_walkAt (.code y_K_walkAt b_K_walkAt 2 (some (.object "ContainerKit$Walk"))) ({ frames := 0, cells := 0, slots := 0, locals := 0 }) [.ref (a_k A), .int (nI i)] (ck_at D ca z A σ) (yy_rr (some (a_wd A i))) := by
  refine yy_body (plainFor_of_name (by decide)) (Nat.le_of_ble_eq_true rfl) (fun b H F hS hP hH hnm => ?_)
  have hrow : (if (nI i).toNatClampNeg < 4 then some (a_wd A (nI i).toNatClampNeg) else none) = some (a_wd A i) := by rw [nI_clamp (by omega)]; exact if_pos hi
  refine yy_iload_n F d_K_walkAt_0 (n := 1) rfl 1 rfl ?_
  refine yy_if_lt_f (tgt := 22) F d_K_walkAt_1 (n := 4) rfl (by decide) (nI_pos (by omega)) ?_
  refine yy_iload_n F d_K_walkAt_4 (n := 5) rfl 1 rfl ?_
  refine yy_aload_n F d_K_walkAt_5 (n := 6) rfl 0 rfl ?_
  refine yy_get F X.1 X.2.1 g_K_17_K hP.k rfl d_K_walkAt_6 (n := 9) rfl ?_
  refine yy_alen F X.2.1 2 rfl hP.wa (x := 4) rfl d_K_walkAt_9 (n := 10) rfl ?_
  refine yy_ic_ge_f (tgt := 22) F d_K_walkAt_10 (n := 13) rfl (by decide) (nI_ge (b := 4) (by omega) (by omega)) ?_
  refine yy_aload_n F d_K_walkAt_13 (n := 14) rfl 0 rfl ?_
  refine yy_get F X.1 X.2.1 g_K_17_K hP.k rfl d_K_walkAt_14 (n := 17) rfl ?_
  refine yy_iload_n F d_K_walkAt_17 (n := 18) rfl 1 rfl ?_
  refine yy_aald F X.2.1 2 rfl hP.wa (vp_in_nI (by omega) (by decide)) d_K_walkAt_18 (n := 19) rfl ?_
  rw [show (if (nI i).toNatClampNeg < 4 then some (a_wd A (nI i).toNatClampNeg) else none) = some (a_wd A i) from hrow]
  refine yy_ifnonnull_t (tgt := 32) F d_K_walkAt_19 (by decide) ?_
  refine yy_aload_n F d_K_walkAt_32 (n := 33) rfl 0 rfl ?_
  refine yy_get F X.1 X.2.1 g_K_17_K hP.k rfl d_K_walkAt_33 (n := 36) rfl ?_
  refine yy_iload_n F d_K_walkAt_36 (n := 37) rfl 1 rfl ?_
  refine yy_aald F X.2.1 2 rfl hP.wa (vp_in_nI (by omega) (by decide)) d_K_walkAt_37 (n := 38) rfl ?_
  rw [show (if (nI i).toNatClampNeg < 4 then some (a_wd A (nI i).toNatClampNeg) else none) = some (a_wd A i) from hrow]
  exact yy_aret F hS ⟨Nat.zero_le _, Nat.zero_le _⟩ rfl (Or.inr ⟨_, rfl⟩) d_K_walkAt_38 (⟨some _, rfl, rfl, rfl⟩)
set_option maxRecDepth 100000 in
set_option maxHeartbeats 4000000 in
theorem c_K_walkAt_no {l : Launch} {z : State} {a0 : Array Value} {D : va_G} {ca : kca} (X : kcx l z a0 D ca) {A : kA} {σ : ks} {t : Nat} (I : iv t σ) {x : Int32} (hx : ¬ ym_in x 4) : yy_M l z y_K_walkAt (.code y_K_walkAt b_K_walkAt 2 (some (.object "ContainerKit$Walk"))) ({ frames := 6, cells := 1, slots := 6, locals := 82 }) [.ref (a_k A), .int x] (ck_at D ca z A σ) (yy_tx "java/lang/IndexOutOfBoundsException") := by
  refine yy_body (plainFor_of_name (by decide)) (Nat.le_of_ble_eq_true rfl) (fun b H F hS hP hH hnm => ?_)
  by_cases h : x < 0
  · refine yy_iload_n F d_K_walkAt_0 (n := 1) rfl 1 rfl ?_
    refine yy_if_lt_t (tgt := 22) F d_K_walkAt_1 (by decide) h ?_
    refine yy_clean hH ?_
    obtain ⟨sa, hsa⟩ := str_202 X
    exact yy_throwS F X.1 X.2.2.2 (cls := "java/lang/IndexOutOfBoundsException") (names := ["java/lang/RuntimeException", "java/lang/Exception"]) (by decide +kernel) (by decide +kernel) q_238 q_12 hsa (yy_hat X F.N oa_199) hH ⟨by decide, by decide⟩ ⟨by decide, by decide⟩ d_K_walkAt_22 d_K_walkAt_25 d_K_walkAt_26 d_K_walkAt_28 d_K_walkAt_31 (fun H1 hx => ⟨rfl, hx⟩)
  · refine yy_iload_n F d_K_walkAt_0 (n := 1) rfl 1 rfl ?_
    refine yy_if_lt_f (tgt := 22) F d_K_walkAt_1 (n := 4) rfl (by decide) h ?_
    refine yy_iload_n F d_K_walkAt_4 (n := 5) rfl 1 rfl ?_
    refine yy_aload_n F d_K_walkAt_5 (n := 6) rfl 0 rfl ?_
    refine yy_get F X.1 X.2.1 g_K_17_K hP.k rfl d_K_walkAt_6 (n := 9) rfl ?_
    refine yy_alen F X.2.1 2 rfl hP.wa (x := 4) rfl d_K_walkAt_9 (n := 10) rfl ?_
    refine yy_ic_ge_t (tgt := 22) F d_K_walkAt_10 (by decide) (Int32.not_lt.mp (fun q => hx ⟨h, q⟩)) ?_
    refine yy_clean hH ?_
    obtain ⟨sa, hsa⟩ := str_202 X
    exact yy_throwS F X.1 X.2.2.2 (cls := "java/lang/IndexOutOfBoundsException") (names := ["java/lang/RuntimeException", "java/lang/Exception"]) (by decide +kernel) (by decide +kernel) q_238 q_12 hsa (yy_hat X F.N oa_199) hH ⟨by decide, by decide⟩ ⟨by decide, by decide⟩ d_K_walkAt_22 d_K_walkAt_25 d_K_walkAt_26 d_K_walkAt_28 d_K_walkAt_31 (fun H1 hx => ⟨rfl, hx⟩)
set_option maxRecDepth 100000 in
set_option maxHeartbeats 4000000 in
theorem c_K_openedWalkAt {l : Launch} {z : State} {a0 : Array Value} {D : va_G} {ca : kca} (X : kcx l z a0 D ca) {A : kA} {σ : ks} {t : Nat} (I : iv t σ) {i : Nat} (hi : i < 4) {c : Nat} (hov : (k_W σ i).1 = some c) : yy_M l z y_K_openedWalkAt (.code y_K_openedWalkAt b_K_openedWalkAt 3 (some (.object "ContainerKit$Walk"))) ({ frames := 1, cells := 0, slots := 0, locals := 21 }) [.ref (a_k A), .int (nI i)] (ck_at D ca z A σ) (yy_rr (some (a_wd A i))) := by
  refine yy_body (plainFor_of_name (by decide)) (Nat.le_of_ble_eq_true rfl) (fun b H F hS hP hH hnm => ?_)
  refine yy_aload_n F d_K_openedWalkAt_0 (n := 1) rfl 0 rfl ?_
  refine yy_iload_n F d_K_openedWalkAt_1 (n := 2) rfl 1 rfl ?_
  refine yy_crr (w := (some (a_wd A i))) F hS (c_K_walkAt X I hi) (yy_Bc F X.1 q_769 q_1) (yy_invV (nA := 1) (C := R_K) (bytes := b_K_walkAt) (maxL := 2) (retY := (some (.object "ContainerKit$Walk"))) F X.1 q_766 q_768 qs_K_walkAt q_769 ⟨by decide, by decide, by decide +kernel⟩ (yy_recv F.N X.2.1 (ci := 5) rfl hP.k) rfl d_K_openedWalkAt_2) d_K_openedWalkAt_2 (n := 5) rfl (by simp [Value.category]) ⟨by decide, by decide⟩ ⟨Nat.zero_le _, Nat.zero_le _⟩ ⟨rfl, rfl⟩ hP rfl (fun _ hSw_1 => ?_)
  refine yy_astore_n (lv' := [(2, .ref (a_wd A i)), (0, .ref (a_k A)), (1, .int (nI i))]) F d_K_openedWalkAt_5 (n := 6) rfl (by decide) rfl ?_
  refine yy_aload_n F d_K_openedWalkAt_6 (n := 7) rfl 0 rfl ?_
  refine yy_get F X.1 X.2.1 g_K_171_W (hP.wo hi hov) rfl d_K_openedWalkAt_7 (n := 10) rfl ?_
  refine yy_ifnonnull_t (tgt := 23) F d_K_openedWalkAt_10 (by decide) ?_
  refine yy_aload_n F d_K_openedWalkAt_23 (n := 24) rfl 0 rfl ?_
  exact yy_aret F hSw_1 ⟨Nat.zero_le _, Nat.zero_le _⟩ rfl (Or.inr ⟨_, rfl⟩) d_K_openedWalkAt_24 (⟨some _, rfl, rfl, rfl⟩)
set_option maxRecDepth 100000 in
set_option maxHeartbeats 4000000 in
theorem c_K_openedWalkAt_no1 {l : Launch} {z : State} {a0 : Array Value} {D : va_G} {ca : kca} (X : kcx l z a0 D ca) {A : kA} {σ : ks} {t : Nat} (I : iv t σ) {x : Int32} (hx : ¬ ym_in x 4) : yy_M l z y_K_openedWalkAt (.code y_K_openedWalkAt b_K_openedWalkAt 3 (some (.object "ContainerKit$Walk"))) ({ frames := 7, cells := 1, slots := 6, locals := 103 }) [.ref (a_k A), .int x] (ck_at D ca z A σ) (yy_tx "java/lang/IndexOutOfBoundsException") := by
  refine yy_body (plainFor_of_name (by decide)) (Nat.le_of_ble_eq_true rfl) (fun b H F hS hP hH hnm => ?_)
  refine yy_aload_n F d_K_openedWalkAt_0 (n := 1) rfl 0 rfl ?_
  refine yy_iload_n F d_K_openedWalkAt_1 (n := 2) rfl 1 rfl ?_
  exact yy_ctp F hS (c_K_walkAt_no X I hx) (yy_Bc F X.1 q_769 q_1) (yy_invV (nA := 1) (C := R_K) (bytes := b_K_walkAt) (maxL := 2) (retY := (some (.object "ContainerKit$Walk"))) F X.1 q_766 q_768 qs_K_walkAt q_769 ⟨by decide, by decide, by decide +kernel⟩ (yy_recv F.N X.2.1 (ci := 5) rfl hP.k) rfl d_K_openedWalkAt_2) d_K_openedWalkAt_2 (by simp [Value.category]) ⟨by decide, by decide⟩ ⟨by decide, by decide⟩ hP (fun H1 hx => ⟨rfl, hx⟩)
set_option maxRecDepth 100000 in
set_option maxHeartbeats 4000000 in
theorem c_K_openedWalkAt_no2 {l : Launch} {z : State} {a0 : Array Value} {D : va_G} {ca : kca} (X : kcx l z a0 D ca) {A : kA} {σ : ks} {t : Nat} (I : iv t σ) {i : Nat} (hi : i < 4) (hov : (k_W σ i).1 = none) : yy_M l z y_K_openedWalkAt (.code y_K_openedWalkAt b_K_openedWalkAt 3 (some (.object "ContainerKit$Walk"))) ({ frames := 6, cells := 1, slots := 6, locals := 82 }) [.ref (a_k A), .int (nI i)] (ck_at D ca z A σ) (yy_tx "java/lang/IndexOutOfBoundsException") := by
  refine yy_body (plainFor_of_name (by decide)) (Nat.le_of_ble_eq_true rfl) (fun b H F hS hP hH hnm => ?_)
  have hw9 : va_at D kcl (a_wd A i, .inr (4, [.null, .int (nI (k_W σ i).2.1), .int (k_W σ i).2.2.1, .int (nI (k_W σ i).2.2.2)])) H := by
    have h := hP.w hi
    unfold wk_at at h
    rw [hov] at h
    exact h
  refine yy_aload_n F d_K_openedWalkAt_0 (n := 1) rfl 0 rfl ?_
  refine yy_iload_n F d_K_openedWalkAt_1 (n := 2) rfl 1 rfl ?_
  refine yy_crr (w := (some (a_wd A i))) F hS (c_K_walkAt X I hi) (yy_Bc F X.1 q_769 q_1) (yy_invV (nA := 1) (C := R_K) (bytes := b_K_walkAt) (maxL := 2) (retY := (some (.object "ContainerKit$Walk"))) F X.1 q_766 q_768 qs_K_walkAt q_769 ⟨by decide, by decide, by decide +kernel⟩ (yy_recv F.N X.2.1 (ci := 5) rfl hP.k) rfl d_K_openedWalkAt_2) d_K_openedWalkAt_2 (n := 5) rfl (by simp [Value.category]) ⟨by decide, by decide⟩ ⟨Nat.zero_le _, Nat.zero_le _⟩ ⟨rfl, rfl⟩ hP rfl (fun _ hSw_1 => ?_)
  refine yy_astore_n (lv' := [(2, .ref (a_wd A i)), (0, .ref (a_k A)), (1, .int (nI i))]) F d_K_openedWalkAt_5 (n := 6) rfl (by decide) rfl ?_
  refine yy_aload_n F d_K_openedWalkAt_6 (n := 7) rfl 0 rfl ?_
  refine yy_get F X.1 X.2.1 g_K_171_W hw9 rfl d_K_openedWalkAt_7 (n := 10) rfl ?_
  refine yy_ifnonnull_f F d_K_openedWalkAt_10 (n := 13) rfl ?_
  refine yy_clean hH ?_
  obtain ⟨sa, hsa⟩ := str_204 X
  exact yy_throwS F X.1 X.2.2.2 (cls := "java/lang/IndexOutOfBoundsException") (names := ["java/lang/RuntimeException", "java/lang/Exception"]) (by decide +kernel) (by decide +kernel) q_238 q_12 hsa (yy_hat X F.N oa_199) hH ⟨by decide, by decide⟩ ⟨by decide, by decide⟩ d_K_openedWalkAt_13 d_K_openedWalkAt_16 d_K_openedWalkAt_17 d_K_openedWalkAt_19 d_K_openedWalkAt_22 (fun H1 hx => ⟨rfl, hx⟩)
set_option maxRecDepth 100000 in
set_option maxHeartbeats 4000000 in
theorem c_K_demandOneMoreContainer {l : Launch} {z : State} {a0 : Array Value} {D : va_G} {ca : kca} (X : kcx l z a0 D ca) {A : kA} {σ : ks} {t : Nat} (I : iv t σ) (h : k_m σ < 10) : yy_M l z y_K_demandOneMoreContainer (.code y_K_demandOneMoreContainer b_K_demandOneMoreContainer 1 none) ({ frames := 0, cells := 0, slots := 0, locals := 0 }) [.ref (a_k A)] (ck_at D ca z A σ) (yy_rv) := by
  refine yy_body (plainFor_of_name (by decide)) (Nat.le_of_ble_eq_true rfl) (fun b H F hS hP hH hnm => ?_)
  refine yy_aload_n F d_K_demandOneMoreContainer_0 (n := 1) rfl 0 rfl ?_
  refine yy_get F X.1 X.2.1 g_K_21_K hP.k rfl d_K_demandOneMoreContainer_1 (n := 4) rfl ?_
  refine yy_aload_n F d_K_demandOneMoreContainer_4 (n := 5) rfl 0 rfl ?_
  refine yy_get F X.1 X.2.1 g_K_11_K hP.k rfl d_K_demandOneMoreContainer_5 (n := 8) rfl ?_
  refine yy_alen F X.2.1 1 rfl hP.ka (x := 10) rfl d_K_demandOneMoreContainer_8 (n := 9) rfl ?_
  refine yy_ic_lt_t (tgt := 22) F d_K_demandOneMoreContainer_9 (by decide) (nI_lt (b := 10) h (by decide)) ?_
  exact yy_vret F hS ⟨Nat.zero_le _, Nat.zero_le _⟩ rfl d_K_demandOneMoreContainer_22 (⟨rfl, rfl⟩)
set_option maxRecDepth 100000 in
set_option maxHeartbeats 4000000 in
theorem c_K_demandOneMoreContainer_no {l : Launch} {z : State} {a0 : Array Value} {D : va_G} {ca : kca} (X : kcx l z a0 D ca) {A : kA} {σ : ks} {t : Nat} (I : iv t σ) (h : k_m σ = 10) : yy_M l z y_K_demandOneMoreContainer (.code y_K_demandOneMoreContainer b_K_demandOneMoreContainer 1 none) ({ frames := 6, cells := 1, slots := 6, locals := 82 }) [.ref (a_k A)] (ck_at D ca z A σ) (yy_tx "java/lang/IllegalStateException") := by
  refine yy_body (plainFor_of_name (by decide)) (Nat.le_of_ble_eq_true rfl) (fun b H F hS hP hH hnm => ?_)
  refine yy_aload_n F d_K_demandOneMoreContainer_0 (n := 1) rfl 0 rfl ?_
  refine yy_get F X.1 X.2.1 g_K_21_K hP.k rfl d_K_demandOneMoreContainer_1 (n := 4) rfl ?_
  refine yy_aload_n F d_K_demandOneMoreContainer_4 (n := 5) rfl 0 rfl ?_
  refine yy_get F X.1 X.2.1 g_K_11_K hP.k rfl d_K_demandOneMoreContainer_5 (n := 8) rfl ?_
  refine yy_alen F X.2.1 1 rfl hP.ka (x := 10) rfl d_K_demandOneMoreContainer_8 (n := 9) rfl ?_
  refine yy_ic_lt_f (tgt := 22) F d_K_demandOneMoreContainer_9 (n := 12) rfl (by decide) (by rw [h]; decide) ?_
  refine yy_clean hH ?_
  obtain ⟨sa, hsa⟩ := str_236 X
  exact yy_throwS F X.1 X.2.2.2 (cls := "java/lang/IllegalStateException") (names := ["java/lang/RuntimeException", "java/lang/Exception"]) (by decide +kernel) (by decide +kernel) q_148 q_8 hsa (yy_hat X F.N oa_238) hH ⟨by decide, by decide⟩ ⟨by decide, by decide⟩ d_K_demandOneMoreContainer_12 d_K_demandOneMoreContainer_15 d_K_demandOneMoreContainer_16 d_K_demandOneMoreContainer_18 d_K_demandOneMoreContainer_21 (fun H1 hx => ⟨rfl, hx⟩)
set_option maxRecDepth 100000 in
set_option maxHeartbeats 4000000 in
theorem c_K_demandFresh {l : Launch} {z : State} {a0 : Array Value} {D : va_G} {ca : kca} (X : kcx l z a0 D ca) {A : kA} {σ : ks} {t : Nat} (I : iv t σ) {c : Nat} (hc : c < k_m σ) (h : k_stale σ c = false) : yy_M l z y_K_demandFresh (.code y_K_demandFresh b_K_demandFresh 1 none) ({ frames := 1, cells := 0, slots := 0, locals := 20 }) [.ref (a_ad A c)] (ck_at D ca z A σ) (yy_rv) := by
  refine yy_body (plainFor_of_name (by decide)) (Nat.le_of_ble_eq_true rfl) (fun b H F hS hP hH hnm => ?_)
  refine yy_aload_n F d_K_demandFresh_0 (n := 1) rfl 0 rfl ?_
  refine vd_isStale F X I hc hP hS q_290 ⟨by decide, by decide⟩ (by simp [Value.category]) d_K_demandFresh_1 (n := 4) rfl ⟨Nat.zero_le _, Nat.zero_le _⟩ (fun _ hS_1 => ?_)
  rw [h]
  refine yy_if_eq_t (tgt := 18) F d_K_demandFresh_4 (by decide) rfl ?_
  exact yy_vret F hS_1 ⟨Nat.zero_le _, Nat.zero_le _⟩ rfl d_K_demandFresh_18 (⟨rfl, rfl⟩)
set_option maxRecDepth 100000 in
set_option maxHeartbeats 4000000 in
theorem c_K_demandFresh_no {l : Launch} {z : State} {a0 : Array Value} {D : va_G} {ca : kca} (X : kcx l z a0 D ca) {A : kA} {σ : ks} {t : Nat} (I : iv t σ) {c : Nat} (hc : c < k_m σ) (h : k_stale σ c = true) : yy_M l z y_K_demandFresh (.code y_K_demandFresh b_K_demandFresh 1 none) ({ frames := 6, cells := 1, slots := 6, locals := 82 }) [.ref (a_ad A c)] (ck_at D ca z A σ) (yy_tx "java/lang/RuntimeException") := by
  refine yy_body (plainFor_of_name (by decide)) (Nat.le_of_ble_eq_true rfl) (fun b H F hS hP hH hnm => ?_)
  refine yy_aload_n F d_K_demandFresh_0 (n := 1) rfl 0 rfl ?_
  refine vd_isStale F X I hc hP hS q_290 ⟨by decide, by decide⟩ (by simp [Value.category]) d_K_demandFresh_1 (n := 4) rfl ⟨Nat.zero_le _, Nat.zero_le _⟩ (fun _ hS_1 => ?_)
  rw [h]
  refine yy_if_eq_f (tgt := 18) F d_K_demandFresh_4 (n := 7) rfl (by decide) (by decide) ?_
  refine yy_clean hH ?_
  obtain ⟨sa, hsa⟩ := str_259 X
  exact yy_throwSW F X.1 X.2.2.2 (cls := "java/lang/RuntimeException") (names := ["java/lang/Exception"]) (by decide +kernel) (by decide +kernel) q_299 q_6 hsa (yy_hat X F.N oa_261) hH ⟨by decide, by decide⟩ ⟨by decide, by decide⟩ d_K_demandFresh_7 d_K_demandFresh_10 d_K_demandFresh_11 d_K_demandFresh_14 d_K_demandFresh_17 (fun H1 hx => ⟨rfl, hx⟩)
set_option maxRecDepth 100000 in
set_option maxHeartbeats 4000000 in
theorem c_K_demandFreshWalk {l : Launch} {z : State} {a0 : Array Value} {D : va_G} {ca : kca} (X : kcx l z a0 D ca) {A : kA} {σ : ks} {t : Nat} (I : iv t σ) {i : Nat} (hi : i < 4) {c : Nat} (hc : c < k_m σ) (hov : (k_W σ i).1 = some c) (h : k_lost σ i c = false) : yy_M l z y_K_demandFreshWalk (.code y_K_demandFreshWalk b_K_demandFreshWalk 1 none) ({ frames := 2, cells := 0, slots := 0, locals := 40 }) [.ref (a_wd A i)] (ck_at D ca z A σ) (yy_rv) := by
  refine yy_body (plainFor_of_name (by decide)) (Nat.le_of_ble_eq_true rfl) (fun b H F hS hP hH hnm => ?_)
  refine yy_aload_n F d_K_demandFreshWalk_0 (n := 1) rfl 0 rfl ?_
  refine yy_cri (w := (ym_n (k_lost σ i c))) F hS (c_W_isStale X I hc hi hov) (yy_Bc F X.1 q_797 q_2) (yy_invV (nA := 0) (C := R_W) (bytes := b_W_isStale) (maxL := 1) (retY := (some .boolean)) F X.1 q_794 q_795 q_796 q_797 ⟨by decide, by decide, by decide +kernel⟩ (yy_recv F.N X.2.1 (ci := 4) rfl (hP.w hi)) rfl d_K_demandFreshWalk_1) d_K_demandFreshWalk_1 (n := 4) rfl (by simp [Value.category]) ⟨by decide, by decide⟩ ⟨Nat.zero_le _, Nat.zero_le _⟩ ⟨rfl, rfl⟩ hP rfl (fun _ hSw_1 => ?_)
  rw [h]
  refine yy_if_eq_t (tgt := 18) F d_K_demandFreshWalk_4 (by decide) rfl ?_
  exact yy_vret F hSw_1 ⟨Nat.zero_le _, Nat.zero_le _⟩ rfl d_K_demandFreshWalk_18 (⟨rfl, rfl⟩)
set_option maxRecDepth 100000 in
set_option maxHeartbeats 4000000 in
theorem c_K_demandFreshWalk_no {l : Launch} {z : State} {a0 : Array Value} {D : va_G} {ca : kca} (X : kcx l z a0 D ca) {A : kA} {σ : ks} {t : Nat} (I : iv t σ) {i : Nat} (hi : i < 4) {c : Nat} (hc : c < k_m σ) (hov : (k_W σ i).1 = some c) (h : k_lost σ i c = true) : yy_M l z y_K_demandFreshWalk (.code y_K_demandFreshWalk b_K_demandFreshWalk 1 none) ({ frames := 6, cells := 1, slots := 6, locals := 82 }) [.ref (a_wd A i)] (ck_at D ca z A σ) (yy_tx "java/lang/RuntimeException") := by
  refine yy_body (plainFor_of_name (by decide)) (Nat.le_of_ble_eq_true rfl) (fun b H F hS hP hH hnm => ?_)
  refine yy_aload_n F d_K_demandFreshWalk_0 (n := 1) rfl 0 rfl ?_
  refine yy_cri (w := (ym_n (k_lost σ i c))) F hS (c_W_isStale X I hc hi hov) (yy_Bc F X.1 q_797 q_2) (yy_invV (nA := 0) (C := R_W) (bytes := b_W_isStale) (maxL := 1) (retY := (some .boolean)) F X.1 q_794 q_795 q_796 q_797 ⟨by decide, by decide, by decide +kernel⟩ (yy_recv F.N X.2.1 (ci := 4) rfl (hP.w hi)) rfl d_K_demandFreshWalk_1) d_K_demandFreshWalk_1 (n := 4) rfl (by simp [Value.category]) ⟨by decide, by decide⟩ ⟨Nat.zero_le _, Nat.zero_le _⟩ ⟨rfl, rfl⟩ hP rfl (fun _ hSw_1 => ?_)
  rw [h]
  refine yy_if_eq_f (tgt := 18) F d_K_demandFreshWalk_4 (n := 7) rfl (by decide) (by decide) ?_
  refine yy_clean hH ?_
  obtain ⟨sa, hsa⟩ := str_263 X
  exact yy_throwSW F X.1 X.2.2.2 (cls := "java/lang/RuntimeException") (names := ["java/lang/Exception"]) (by decide +kernel) (by decide +kernel) q_299 q_6 hsa (yy_hat X F.N oa_261) hH ⟨by decide, by decide⟩ ⟨by decide, by decide⟩ d_K_demandFreshWalk_7 d_K_demandFreshWalk_10 d_K_demandFreshWalk_11 d_K_demandFreshWalk_14 d_K_demandFreshWalk_17 (fun H1 hx => ⟨rfl, hx⟩)
set_option maxRecDepth 100000 in
set_option maxHeartbeats 4000000 in
theorem c_K_demandSpace {l : Launch} {z : State} {a0 : Array Value} {D : va_G} {ca : kca} (X : kcx l z a0 D ca) {A : kA} {σ : ks} {t : Nat} (I : iv t σ) {c : Nat} (hc : c < k_m σ) (h : ¬ 24 ≤ s_ct (k_B σ c)) : yy_M l z y_K_demandSpace (.code y_K_demandSpace b_K_demandSpace 1 none) ({ frames := 1, cells := 0, slots := 0, locals := 20 }) [.ref (a_sa A (k_bs σ c))] (ck_at D ca z A σ) (yy_rv) := by
  refine yy_body (plainFor_of_name (by decide)) (Nat.le_of_ble_eq_true rfl) (fun b H F hS hP hH hnm => ?_)
  refine yy_aload_n F d_K_demandSpace_0 (n := 1) rfl 0 rfl ?_
  refine yy_cri (w := (ym_n false)) F hS (c_S_isFull X (I.ct hc)) (yy_Bc F X.1 q_498 q_11) (yy_invV (nA := 0) (C := R_S) (bytes := b_S_isFull) (maxL := 1) (retY := (some .boolean)) F X.1 q_495 q_496 q_497 q_498 ⟨by decide, by decide, by decide +kernel⟩ (yy_recv F.N X.2.1 (ci := 0) rfl (hP.sc hc).1) rfl d_K_demandSpace_1) d_K_demandSpace_1 (n := 4) rfl (by simp [Value.category]) ⟨by decide, by decide⟩ ⟨Nat.zero_le _, Nat.zero_le _⟩ ⟨rfl, rfl⟩ (hP.sc hc) (by rw [decide_eq_false h]) (fun _ hSw_1 => ?_)
  refine yy_if_eq_t (tgt := 18) F d_K_demandSpace_4 (by decide) rfl ?_
  exact yy_vret F hSw_1 ⟨Nat.zero_le _, Nat.zero_le _⟩ rfl d_K_demandSpace_18 (⟨rfl, rfl⟩)
set_option maxRecDepth 100000 in
set_option maxHeartbeats 4000000 in
theorem c_K_demandSpace_no {l : Launch} {z : State} {a0 : Array Value} {D : va_G} {ca : kca} (X : kcx l z a0 D ca) {A : kA} {σ : ks} {t : Nat} (I : iv t σ) {c : Nat} (hc : c < k_m σ) (h : 24 ≤ s_ct (k_B σ c)) : yy_M l z y_K_demandSpace (.code y_K_demandSpace b_K_demandSpace 1 none) ({ frames := 6, cells := 1, slots := 6, locals := 82 }) [.ref (a_sa A (k_bs σ c))] (ck_at D ca z A σ) (yy_tx "java/lang/IllegalStateException") := by
  refine yy_body (plainFor_of_name (by decide)) (Nat.le_of_ble_eq_true rfl) (fun b H F hS hP hH hnm => ?_)
  refine yy_aload_n F d_K_demandSpace_0 (n := 1) rfl 0 rfl ?_
  refine yy_cri (w := (ym_n true)) F hS (c_S_isFull X (I.ct hc)) (yy_Bc F X.1 q_498 q_11) (yy_invV (nA := 0) (C := R_S) (bytes := b_S_isFull) (maxL := 1) (retY := (some .boolean)) F X.1 q_495 q_496 q_497 q_498 ⟨by decide, by decide, by decide +kernel⟩ (yy_recv F.N X.2.1 (ci := 0) rfl (hP.sc hc).1) rfl d_K_demandSpace_1) d_K_demandSpace_1 (n := 4) rfl (by simp [Value.category]) ⟨by decide, by decide⟩ ⟨Nat.zero_le _, Nat.zero_le _⟩ ⟨rfl, rfl⟩ (hP.sc hc) (by rw [decide_eq_true h]) (fun _ hSw_1 => ?_)
  refine yy_if_eq_f (tgt := 18) F d_K_demandSpace_4 (n := 7) rfl (by decide) (by decide) ?_
  refine yy_clean hH ?_
  obtain ⟨sa, hsa⟩ := str_268 X
  exact yy_throwSW F X.1 X.2.2.2 (cls := "java/lang/IllegalStateException") (names := ["java/lang/RuntimeException", "java/lang/Exception"]) (by decide +kernel) (by decide +kernel) q_148 q_8 hsa (yy_hat X F.N oa_238) hH ⟨by decide, by decide⟩ ⟨by decide, by decide⟩ d_K_demandSpace_7 d_K_demandSpace_10 d_K_demandSpace_11 d_K_demandSpace_14 d_K_demandSpace_17 (fun H1 hx => ⟨rfl, hx⟩)
end
section
/-! PART spec: what each call answers, and what state it leaves: a name of what is thrown, or none; a value; the state -/
abbrev e_io : String := "java/lang/IndexOutOfBoundsException"
abbrev e_uo : String := "java/lang/UnsupportedOperationException"
abbrev e_ia : String := "java/lang/IllegalArgumentException"
abbrev e_is : String := "java/lang/IllegalStateException"
abbrev e_ns : String := "java/util/NoSuchElementException"
abbrev e_rt : String := "java/lang/RuntimeException"
abbrev kr : Type := Option String × Int32 × ks
abbrev cN (x : Int32) : Nat := x.toNatClampNeg
def kbind (o : Option String) (σ : ks) (r : kr) : kr := match o with | some E => (some E, 0, σ) | none => r
def kdem (b : Bool) (E : String) (σ : ks) (r : kr) : kr := if b = true then r else (some E, 0, σ)
def k_ism (kd : Int32) : Bool := k_ish kd || k_iss kd
def ch_con (σ : ks) (x : Int32) : Option String := if ym_inb x (k_m σ) = true then none else some e_io
def ch_map (σ : ks) (x : Int32) : Option String := if ym_inb x (k_m σ) = true then (if k_ism (k_kd σ (cN x)) = true then none else some e_uo) else some e_io
def ch_fl (σ : ks) (x : Int32) : Option String := if ym_inb x (k_m σ) = true then (if k_isl (k_kd σ (cN x)) = true then (if k_stale σ (cN x) = true then some e_rt else none) else some e_uo) else some e_io
def k_isf (kd : Int32) : Bool := k_isl kd || decide (kd = 5)
def ch_flh (σ : ks) (x : Int32) : Option String := if ym_inb x (k_m σ) = true then (if k_isf (k_kd σ (cN x)) = true then (if k_stale σ (cN x) = true then some e_rt else none) else some e_uo) else some e_io
def ch_wk (σ : ks) (x : Int32) : Option String := if ym_inb x 4 = true then (if (k_W σ (cN x)).1 = none then some e_io else none) else some e_io
def k_ov (σ : ks) (i : Nat) : Nat := match (k_W σ i).1 with | none => 0 | some c => c
theorem inb_cN {x : Int32} {n : Nat} (hn : n < 2 ^ 31) (h : ym_inb x n = true) : cN x < n ∧ x = nI (cN x) := by
  have h1 : ym_in x n := by
    apply Classical.byContradiction
    intro q
    rw [ym_inb_f q] at h
    cases h
  obtain ⟨j, hj, rfl⟩ := h1.nat hn
  rw [show cN (nI j) = j from nI_clamp (by omega)]
  exact ⟨hj, rfl⟩
theorem inb_no {x : Int32} {n : Nat} (h : ¬ ym_inb x n = true) : ¬ ym_in x n := fun q => h (ym_inb_t q)
theorem ch_con_none {σ : ks} {x : Int32} (hm : k_m σ ≤ 10) (h : ch_con σ x = none) : cN x < k_m σ ∧ x = nI (cN x) := by
  unfold ch_con at h
  split at h
  · exact inb_cN (by omega) (by assumption)
  · cases h
theorem ch_con_some {σ : ks} {x : Int32} {E : String} (h : ch_con σ x = some E) : ¬ ym_in x (k_m σ) ∧ E = e_io := by
  unfold ch_con at h
  split at h
  · cases h
  · cases h
    exact ⟨inb_no (by assumption), rfl⟩
theorem ch_map_none {σ : ks} {x : Int32} (hm : k_m σ ≤ 10) (h : ch_map σ x = none) : cN x < k_m σ ∧ x = nI (cN x) ∧ k_ism (k_kd σ (cN x)) = true := by
  unfold ch_map at h
  split at h
  · have h9 := inb_cN (n := k_m σ) (by omega) (by assumption)
    split at h
    · exact ⟨h9.1, h9.2, by assumption⟩
    · cases h
  · cases h
theorem ch_map_some {σ : ks} {x : Int32} {E : String} (hm : k_m σ ≤ 10) (h : ch_map σ x = some E) : ¬ ym_in x (k_m σ) ∧ E = e_io ∨ (cN x < k_m σ ∧ x = nI (cN x)) ∧ k_ism (k_kd σ (cN x)) = false ∧ E = e_uo := by
  unfold ch_map at h
  split at h
  · have h9 := inb_cN (n := k_m σ) (by omega) (by assumption)
    split at h
    · cases h
    · cases h
      exact Or.inr ⟨h9, Bool.eq_false_iff.mpr (by assumption), rfl⟩
  · cases h
    exact Or.inl ⟨inb_no (by assumption), rfl⟩
theorem ch_fl_none {σ : ks} {x : Int32} (hm : k_m σ ≤ 10) (h : ch_fl σ x = none) : cN x < k_m σ ∧ x = nI (cN x) ∧ k_isl (k_kd σ (cN x)) = true ∧ k_stale σ (cN x) = false := by
  unfold ch_fl at h
  split at h
  · have h9 := inb_cN (n := k_m σ) (by omega) (by assumption)
    split at h
    · split at h
      · cases h
      · exact ⟨h9.1, h9.2, by assumption, Bool.eq_false_iff.mpr (by assumption)⟩
    · cases h
  · cases h
theorem ch_fl_some {σ : ks} {x : Int32} {E : String} (hm : k_m σ ≤ 10) (h : ch_fl σ x = some E) : ¬ ym_in x (k_m σ) ∧ E = e_io ∨ (cN x < k_m σ ∧ x = nI (cN x)) ∧ (k_isl (k_kd σ (cN x)) = false ∧ E = e_uo ∨ k_isl (k_kd σ (cN x)) = true ∧ k_stale σ (cN x) = true ∧ E = e_rt) := by
  unfold ch_fl at h
  split at h
  · have h9 := inb_cN (n := k_m σ) (by omega) (by assumption)
    split at h
    · split at h
      · cases h
        exact Or.inr ⟨h9, Or.inr ⟨by assumption, by assumption, rfl⟩⟩
      · cases h
    · cases h
      exact Or.inr ⟨h9, Or.inl ⟨Bool.eq_false_iff.mpr (by assumption), rfl⟩⟩
  · cases h
    exact Or.inl ⟨inb_no (by assumption), rfl⟩
theorem ch_flh_none {σ : ks} {x : Int32} (hm : k_m σ ≤ 10) (h : ch_flh σ x = none) : cN x < k_m σ ∧ x = nI (cN x) ∧ k_isf (k_kd σ (cN x)) = true ∧ k_stale σ (cN x) = false := by
  unfold ch_flh at h
  split at h
  · have h9 := inb_cN (n := k_m σ) (by omega) (by assumption)
    split at h
    · split at h
      · cases h
      · exact ⟨h9.1, h9.2, by assumption, Bool.eq_false_iff.mpr (by assumption)⟩
    · cases h
  · cases h
theorem ch_flh_some {σ : ks} {x : Int32} {E : String} (hm : k_m σ ≤ 10) (h : ch_flh σ x = some E) : ¬ ym_in x (k_m σ) ∧ E = e_io ∨ (cN x < k_m σ ∧ x = nI (cN x)) ∧ (k_isf (k_kd σ (cN x)) = false ∧ E = e_uo ∨ k_isf (k_kd σ (cN x)) = true ∧ k_stale σ (cN x) = true ∧ E = e_rt) := by
  unfold ch_flh at h
  split at h
  · have h9 := inb_cN (n := k_m σ) (by omega) (by assumption)
    split at h
    · split at h
      · cases h
        exact Or.inr ⟨h9, Or.inr ⟨by assumption, by assumption, rfl⟩⟩
      · cases h
    · cases h
      exact Or.inr ⟨h9, Or.inl ⟨Bool.eq_false_iff.mpr (by assumption), rfl⟩⟩
  · cases h
    exact Or.inl ⟨inb_no (by assumption), rfl⟩
theorem ch_wk_none {t : Nat} {σ : ks} {x : Int32} (I : iv t σ) (h : ch_wk σ x = none) : cN x < 4 ∧ x = nI (cN x) ∧ (k_W σ (cN x)).1 = some (k_ov σ (cN x)) ∧ k_ov σ (cN x) < k_m σ := by
  unfold ch_wk at h
  split at h
  · have h9 := inb_cN (n := 4) (by omega) (by assumption)
    split at h
    · cases h
    · rename_i h8
      unfold k_ov
      cases hw : (k_W σ (cN x)).1 with
      | none => exact absurd hw h8
      | some c => exact ⟨h9.1, h9.2, rfl, ((I.2.2.2.2 _ h9.1).2 c hw).1⟩
  · cases h
theorem ch_wk_some {σ : ks} {x : Int32} {E : String} (h : ch_wk σ x = some E) : (¬ ym_in x 4 ∨ (cN x < 4 ∧ x = nI (cN x)) ∧ (k_W σ (cN x)).1 = none) ∧ E = e_io := by
  unfold ch_wk at h
  split at h
  · have h9 := inb_cN (n := 4) (by omega) (by assumption)
    split at h
    · cases h
      exact ⟨Or.inr ⟨h9, by assumption⟩, rfl⟩
    · cases h
  · cases h
    exact ⟨Or.inl (inb_no (by assumption)), rfl⟩
/-- the kit stands where it stood; what was nobody's is still nobody's -/
def kA_ext (n : Nat) (A A' : kA) : Prop := a_k A' = a_k A ∧ ∀ q, q < n → a_ow A' q = a_ow A q
theorem kA_ext.rf {n : Nat} {A : kA} : kA_ext n A A := ⟨rfl, fun _ _ => rfl⟩
/-- a call's end: as the spec says -/
def kqp (D : va_G) (ca : kca) (z : State) (A : kA) (V : Int32 → Option Value) (r : kr) : yy_R → Heap → Heap → Prop := fun o H H1 => o = (match r.1 with | some E => .inr E | none => .inl (V r.2.1)) ∧ (∃ A' : kA, ck_at D ca z A' r.2.2 H1 ∧ kA_ext H.size A A') ∧ kpA A H H1
def kqi (D : va_G) (ca : kca) (z : State) (A : kA) (r : kr) : yy_R → Heap → Heap → Prop := kqp D ca z A (fun v => some (.int v)) r
def kqv (D : va_G) (ca : kca) (z : State) (A : kA) (r : kr) : yy_R → Heap → Heap → Prop := kqp D ca z A (fun _ => none) r
section Kq
variable {D : va_G} {ca : kca} {z : State} {A : kA} {σ σ' : ks} {V : Int32 → Option Value} {r : kr} {H H1 : Heap} {v : Int32}
theorem kq_ok (hr : r = (none, v, σ')) (P : ck_at D ca z A σ' H1) (k : kpA A H H1) : kqp D ca z A V r (.inl (V v)) H H1 := by
  subst hr
  exact ⟨rfl, ⟨A, P, kA_ext.rf⟩, k⟩
theorem kq_i (hr : r = (none, v, σ')) (P : ck_at D ca z A σ' H1) (k : kpA A H H1) : kqi D ca z A r (.inl (some (.int v))) H H1 := kq_ok (V := fun v => some (.int v)) hr P k
theorem kq_v (hr : r = (none, v, σ')) (P : ck_at D ca z A σ' H1) (k : kpA A H H1) : kqv D ca z A r (.inl none) H H1 := kq_ok (V := fun _ => none) hr P k
theorem kq_no {E : String} (hr : r = (some E, 0, σ)) (P : ck_at D ca z A σ H) (hx : yy_ext H H1) : kqp D ca z A V r (.inr E) H H1 := by
  subst hr
  exact ⟨rfl, ⟨A, P.ext hx, kA_ext.rf⟩, kpA.ext hx⟩
end Kq
end
section
/-! PART K2: lookups that also ask for a kind -/
theorem k_cat {l : Launch} {z : State} {a0 : Array Value} {D : va_G} {ca : kca} (X : kcx l z a0 D ca) {A : kA} {σ : ks} {t : Nat} (I : iv t σ) {x : Int32} (hc : cN x < k_m σ) (ex : x = nI (cN x)) : yy_M l z y_K_containerAt (.code y_K_containerAt b_K_containerAt 2 (some (.object "ContainerKit$Container"))) ({ frames := 0, cells := 0, slots := 0, locals := 0 }) [.ref (a_k A), .int x] (ck_at D ca z A σ) (yy_rr (some (a_ad A (cN x)))) := by
  have h9 := c_K_containerAt (A := A) X I hc
  rw [← ex] at h9
  exact h9
theorem k_wat {l : Launch} {z : State} {a0 : Array Value} {D : va_G} {ca : kca} (X : kcx l z a0 D ca) {A : kA} {σ : ks} {t : Nat} (I : iv t σ) {x : Int32} (hi : cN x < 4) (ex : x = nI (cN x)) : yy_M l z y_K_walkAt (.code y_K_walkAt b_K_walkAt 2 (some (.object "ContainerKit$Walk"))) ({ frames := 0, cells := 0, slots := 0, locals := 0 }) [.ref (a_k A), .int x] (ck_at D ca z A σ) (yy_rr (some (a_wd A (cN x)))) := by
  have h9 := c_K_walkAt (A := A) X I hi
  rw [← ex] at h9
  exact h9
set_option maxRecDepth 100000 in
set_option maxHeartbeats 4000000 in
theorem c_K_mapAt {l : Launch} {z : State} {a0 : Array Value} {D : va_G} {ca : kca} (X : kcx l z a0 D ca) {A : kA} {σ : ks} {t : Nat} (I : iv t σ) {x : Int32} (hE : ch_map σ x = none) : yy_M l z y_K_mapAt (.code y_K_mapAt b_K_mapAt 3 (some (.object "ContainerKit$Container"))) ({ frames := 2, cells := 0, slots := 0, locals := 40 }) [.ref (a_k A), .int x] (ck_at D ca z A σ) (yy_rr (some (a_ad A (cN x)))) := by
  refine yy_body (plainFor_of_name (by decide)) (Nat.le_of_ble_eq_true rfl) (fun b H F hS hP hH hnm => ?_)
  obtain ⟨hc, ex, hk⟩ := ch_map_none I.m10 hE
  refine yy_aload_n F d_K_mapAt_0 (n := 1) rfl 0 rfl ?_
  refine yy_iload_n F d_K_mapAt_1 (n := 2) rfl 1 rfl ?_
  refine yy_crr (w := (some (a_ad A (cN x)))) F hS (k_cat X I hc ex) (yy_Bc F X.1 q_237 q_1) (yy_invV (nA := 1) (C := R_K) (bytes := b_K_containerAt) (maxL := 2) (retY := (some (.object "ContainerKit$Container"))) F X.1 q_234 q_236 qs_K_containerAt q_237 ⟨by decide, by decide, by decide +kernel⟩ (yy_recv F.N X.2.1 (ci := 5) rfl hP.k) rfl d_K_mapAt_2) d_K_mapAt_2 (n := 5) rfl (by simp [Value.category]) ⟨by decide, by decide⟩ ⟨Nat.zero_le _, Nat.zero_le _⟩ ⟨rfl, rfl⟩ hP rfl (fun _ hSw_1 => ?_)
  refine yy_astore_n (lv' := [(2, .ref (a_ad A (cN x))), (0, .ref (a_k A)), (1, .int x)]) F d_K_mapAt_5 (n := 6) rfl (by decide) rfl ?_
  refine yy_aload_n F d_K_mapAt_6 (n := 7) rfl 0 rfl ?_
  refine yy_cri (w := (ym_n true)) F hSw_1 (c_C_isMap (A := A) (σ := σ) (c := cN x) X I hc) (yy_Bc F X.1 q_587 q_9) (yy_invC (nA := 0) (x := y_C_isMap) F X hP hc q_581 q_583 (k_dec X q_582 q_587) (k_sel q_586 q_584 q_585 σ (cN x)) q_582 ⟨by decide, by decide, by decide +kernel⟩ rfl d_K_mapAt_7) d_K_mapAt_7 (n := 10) rfl (by simp [Value.category]) ⟨by decide, by decide⟩ ⟨Nat.zero_le _, Nat.zero_le _⟩ ⟨rfl, rfl⟩ hP (by rw [show (k_ish (k_kd σ (cN x)) || k_iss (k_kd σ (cN x))) = true from hk]) (fun _ hSw_2 => ?_)
  refine yy_crv F hSw_2 (c_K_demandKind X) (yy_Bc F X.1 q_270 q_1) (yy_invS (nA := 1) (bytes := b_K_demandKind) (maxL := 1) (retY := none) F X.1 q_268 q_269 q_1 q_270 ⟨by decide, by decide, by decide +kernel⟩ rfl d_K_mapAt_10) d_K_mapAt_10 (n := 13) rfl (by simp [Value.category]) ⟨by decide, by decide⟩ ⟨Nat.zero_le _, Nat.zero_le _⟩ ⟨rfl, rfl⟩ trivial (fun _ hSw_3 => ?_)
  refine yy_aload_n F d_K_mapAt_13 (n := 14) rfl 0 rfl ?_
  exact yy_aret F hSw_3 ⟨Nat.zero_le _, Nat.zero_le _⟩ rfl (Or.inr ⟨_, rfl⟩) d_K_mapAt_14 (⟨some _, rfl, rfl, rfl⟩)
set_option maxRecDepth 100000 in
set_option maxHeartbeats 4000000 in
theorem c_K_mapAt_no {l : Launch} {z : State} {a0 : Array Value} {D : va_G} {ca : kca} (X : kcx l z a0 D ca) {A : kA} {σ : ks} {t : Nat} (I : iv t σ) {x : Int32} {E : String} (hE : ch_map σ x = some E) : yy_M l z y_K_mapAt (.code y_K_mapAt b_K_mapAt 3 (some (.object "ContainerKit$Container"))) ({ frames := 7, cells := 1, slots := 6, locals := 103 }) [.ref (a_k A), .int x] (ck_at D ca z A σ) (yy_tx E) := by
  refine yy_body (plainFor_of_name (by decide)) (Nat.le_of_ble_eq_true rfl) (fun b H F hS hP hH hnm => ?_)
  rcases ch_map_some I.m10 hE with ⟨hin, rfl⟩ | ⟨⟨hc, ex⟩, hk, rfl⟩
  · refine yy_aload_n F d_K_mapAt_0 (n := 1) rfl 0 rfl ?_
    refine yy_iload_n F d_K_mapAt_1 (n := 2) rfl 1 rfl ?_
    exact yy_ctp F hS (c_K_containerAt_no X I hin) (yy_Bc F X.1 q_237 q_1) (yy_invV (nA := 1) (C := R_K) (bytes := b_K_containerAt) (maxL := 2) (retY := (some (.object "ContainerKit$Container"))) F X.1 q_234 q_236 qs_K_containerAt q_237 ⟨by decide, by decide, by decide +kernel⟩ (yy_recv F.N X.2.1 (ci := 5) rfl hP.k) rfl d_K_mapAt_2) d_K_mapAt_2 (by simp [Value.category]) ⟨by decide, by decide⟩ ⟨by decide, by decide⟩ hP (fun H1 hx => ⟨rfl, hx⟩)
  · refine yy_aload_n F d_K_mapAt_0 (n := 1) rfl 0 rfl ?_
    refine yy_iload_n F d_K_mapAt_1 (n := 2) rfl 1 rfl ?_
    refine yy_crr (w := (some (a_ad A (cN x)))) F hS (k_cat X I hc ex) (yy_Bc F X.1 q_237 q_1) (yy_invV (nA := 1) (C := R_K) (bytes := b_K_containerAt) (maxL := 2) (retY := (some (.object "ContainerKit$Container"))) F X.1 q_234 q_236 qs_K_containerAt q_237 ⟨by decide, by decide, by decide +kernel⟩ (yy_recv F.N X.2.1 (ci := 5) rfl hP.k) rfl d_K_mapAt_2) d_K_mapAt_2 (n := 5) rfl (by simp [Value.category]) ⟨by decide, by decide⟩ ⟨Nat.zero_le _, Nat.zero_le _⟩ ⟨rfl, rfl⟩ hP rfl (fun _ hSw_2 => ?_)
    refine yy_astore_n (lv' := [(2, .ref (a_ad A (cN x))), (0, .ref (a_k A)), (1, .int x)]) F d_K_mapAt_5 (n := 6) rfl (by decide) rfl ?_
    refine yy_aload_n F d_K_mapAt_6 (n := 7) rfl 0 rfl ?_
    refine yy_cri (w := (ym_n false)) F hSw_2 (c_C_isMap (A := A) (σ := σ) (c := cN x) X I hc) (yy_Bc F X.1 q_587 q_9) (yy_invC (nA := 0) (x := y_C_isMap) F X hP hc q_581 q_583 (k_dec X q_582 q_587) (k_sel q_586 q_584 q_585 σ (cN x)) q_582 ⟨by decide, by decide, by decide +kernel⟩ rfl d_K_mapAt_7) d_K_mapAt_7 (n := 10) rfl (by simp [Value.category]) ⟨by decide, by decide⟩ ⟨Nat.zero_le _, Nat.zero_le _⟩ ⟨rfl, rfl⟩ hP (by rw [show (k_ish (k_kd σ (cN x)) || k_iss (k_kd σ (cN x))) = false from hk]) (fun _ hSw_3 => ?_)
    exact yy_ctp F hSw_3 (c_K_demandKind_no X) (yy_Bc F X.1 q_270 q_1) (yy_invS (nA := 1) (bytes := b_K_demandKind) (maxL := 1) (retY := none) F X.1 q_268 q_269 q_1 q_270 ⟨by decide, by decide, by decide +kernel⟩ rfl d_K_mapAt_10) d_K_mapAt_10 (by simp [Value.category]) ⟨by decide, by decide⟩ ⟨by decide, by decide⟩ trivial (fun H1 hx => ⟨rfl, hx⟩)
set_option maxRecDepth 100000 in
set_option maxHeartbeats 4000000 in
theorem c_K_freshList {l : Launch} {z : State} {a0 : Array Value} {D : va_G} {ca : kca} (X : kcx l z a0 D ca) {A : kA} {σ : ks} {t : Nat} (I : iv t σ) {x : Int32} (hE : ch_fl σ x = none) : yy_M l z y_K_freshList (.code y_K_freshList b_K_freshList 3 (some (.object "ContainerKit$Container"))) ({ frames := 2, cells := 0, slots := 0, locals := 40 }) [.ref (a_k A), .int x] (ck_at D ca z A σ) (yy_rr (some (a_ad A (cN x)))) := by
  refine yy_body (plainFor_of_name (by decide)) (Nat.le_of_ble_eq_true rfl) (fun b H F hS hP hH hnm => ?_)
  obtain ⟨hc, ex, hk, hs⟩ := ch_fl_none I.m10 hE
  refine yy_aload_n F d_K_freshList_0 (n := 1) rfl 0 rfl ?_
  refine yy_iload_n F d_K_freshList_1 (n := 2) rfl 1 rfl ?_
  refine yy_crr (w := (some (a_ad A (cN x)))) F hS (k_cat X I hc ex) (yy_Bc F X.1 q_237 q_1) (yy_invV (nA := 1) (C := R_K) (bytes := b_K_containerAt) (maxL := 2) (retY := (some (.object "ContainerKit$Container"))) F X.1 q_234 q_236 qs_K_containerAt q_237 ⟨by decide, by decide, by decide +kernel⟩ (yy_recv F.N X.2.1 (ci := 5) rfl hP.k) rfl d_K_freshList_2) d_K_freshList_2 (n := 5) rfl (by simp [Value.category]) ⟨by decide, by decide⟩ ⟨Nat.zero_le _, Nat.zero_le _⟩ ⟨rfl, rfl⟩ hP rfl (fun _ hSw_1 => ?_)
  refine yy_astore_n (lv' := [(2, .ref (a_ad A (cN x))), (0, .ref (a_k A)), (1, .int x)]) F d_K_freshList_5 (n := 6) rfl (by decide) rfl ?_
  refine yy_aload_n F d_K_freshList_6 (n := 7) rfl 0 rfl ?_
  refine yy_cri (w := (ym_n true)) F hSw_1 (c_C_isList (A := A) (σ := σ) (c := cN x) X I hc) (yy_Bc F X.1 q_260 q_9) (yy_invC (nA := 0) (x := y_C_isList) F X hP hc q_254 q_256 (k_dec X q_255 q_260) (k_sel q_259 q_257 q_258 σ (cN x)) q_255 ⟨by decide, by decide, by decide +kernel⟩ rfl d_K_freshList_7) d_K_freshList_7 (n := 10) rfl (by simp [Value.category]) ⟨by decide, by decide⟩ ⟨Nat.zero_le _, Nat.zero_le _⟩ ⟨rfl, rfl⟩ hP (by rw [hk]) (fun _ hSw_2 => ?_)
  refine yy_crv F hSw_2 (c_K_demandKind X) (yy_Bc F X.1 q_270 q_1) (yy_invS (nA := 1) (bytes := b_K_demandKind) (maxL := 1) (retY := none) F X.1 q_268 q_269 q_1 q_270 ⟨by decide, by decide, by decide +kernel⟩ rfl d_K_freshList_10) d_K_freshList_10 (n := 13) rfl (by simp [Value.category]) ⟨by decide, by decide⟩ ⟨Nat.zero_le _, Nat.zero_le _⟩ ⟨rfl, rfl⟩ trivial (fun _ hSw_3 => ?_)
  refine yy_aload_n F d_K_freshList_13 (n := 14) rfl 0 rfl ?_
  refine yy_crv F hSw_3 (c_K_demandFresh X I hc hs) (yy_Bc F X.1 q_289 q_1) (yy_invS (nA := 1) (bytes := b_K_demandFresh) (maxL := 1) (retY := none) F X.1 q_287 q_288 q_1 q_289 ⟨by decide, by decide, by decide +kernel⟩ rfl d_K_freshList_14) d_K_freshList_14 (n := 17) rfl (by simp [Value.category]) ⟨by decide, by decide⟩ ⟨Nat.zero_le _, Nat.zero_le _⟩ ⟨rfl, rfl⟩ hP (fun _ hSw_4 => ?_)
  refine yy_aload_n F d_K_freshList_17 (n := 18) rfl 0 rfl ?_
  exact yy_aret F hSw_4 ⟨Nat.zero_le _, Nat.zero_le _⟩ rfl (Or.inr ⟨_, rfl⟩) d_K_freshList_18 (⟨some _, rfl, rfl, rfl⟩)
set_option maxRecDepth 100000 in
set_option maxHeartbeats 4000000 in
theorem c_K_freshList_no {l : Launch} {z : State} {a0 : Array Value} {D : va_G} {ca : kca} (X : kcx l z a0 D ca) {A : kA} {σ : ks} {t : Nat} (I : iv t σ) {x : Int32} {E : String} (hE : ch_fl σ x = some E) : yy_M l z y_K_freshList (.code y_K_freshList b_K_freshList 3 (some (.object "ContainerKit$Container"))) ({ frames := 7, cells := 1, slots := 6, locals := 103 }) [.ref (a_k A), .int x] (ck_at D ca z A σ) (yy_tx E) := by
  refine yy_body (plainFor_of_name (by decide)) (Nat.le_of_ble_eq_true rfl) (fun b H F hS hP hH hnm => ?_)
  rcases ch_fl_some I.m10 hE with ⟨hin, rfl⟩ | ⟨⟨hc, ex⟩, ⟨hk, rfl⟩ | ⟨hk, hs, rfl⟩⟩
  · refine yy_aload_n F d_K_freshList_0 (n := 1) rfl 0 rfl ?_
    refine yy_iload_n F d_K_freshList_1 (n := 2) rfl 1 rfl ?_
    exact yy_ctp F hS (c_K_containerAt_no X I hin) (yy_Bc F X.1 q_237 q_1) (yy_invV (nA := 1) (C := R_K) (bytes := b_K_containerAt) (maxL := 2) (retY := (some (.object "ContainerKit$Container"))) F X.1 q_234 q_236 qs_K_containerAt q_237 ⟨by decide, by decide, by decide +kernel⟩ (yy_recv F.N X.2.1 (ci := 5) rfl hP.k) rfl d_K_freshList_2) d_K_freshList_2 (by simp [Value.category]) ⟨by decide, by decide⟩ ⟨by decide, by decide⟩ hP (fun H1 hx => ⟨rfl, hx⟩)
  · refine yy_aload_n F d_K_freshList_0 (n := 1) rfl 0 rfl ?_
    refine yy_iload_n F d_K_freshList_1 (n := 2) rfl 1 rfl ?_
    refine yy_crr (w := (some (a_ad A (cN x)))) F hS (k_cat X I hc ex) (yy_Bc F X.1 q_237 q_1) (yy_invV (nA := 1) (C := R_K) (bytes := b_K_containerAt) (maxL := 2) (retY := (some (.object "ContainerKit$Container"))) F X.1 q_234 q_236 qs_K_containerAt q_237 ⟨by decide, by decide, by decide +kernel⟩ (yy_recv F.N X.2.1 (ci := 5) rfl hP.k) rfl d_K_freshList_2) d_K_freshList_2 (n := 5) rfl (by simp [Value.category]) ⟨by decide, by decide⟩ ⟨Nat.zero_le _, Nat.zero_le _⟩ ⟨rfl, rfl⟩ hP rfl (fun _ hSw_2 => ?_)
    refine yy_astore_n (lv' := [(2, .ref (a_ad A (cN x))), (0, .ref (a_k A)), (1, .int x)]) F d_K_freshList_5 (n := 6) rfl (by decide) rfl ?_
    refine yy_aload_n F d_K_freshList_6 (n := 7) rfl 0 rfl ?_
    refine yy_cri (w := (ym_n false)) F hSw_2 (c_C_isList (A := A) (σ := σ) (c := cN x) X I hc) (yy_Bc F X.1 q_260 q_9) (yy_invC (nA := 0) (x := y_C_isList) F X hP hc q_254 q_256 (k_dec X q_255 q_260) (k_sel q_259 q_257 q_258 σ (cN x)) q_255 ⟨by decide, by decide, by decide +kernel⟩ rfl d_K_freshList_7) d_K_freshList_7 (n := 10) rfl (by simp [Value.category]) ⟨by decide, by decide⟩ ⟨Nat.zero_le _, Nat.zero_le _⟩ ⟨rfl, rfl⟩ hP (by rw [hk]) (fun _ hSw_3 => ?_)
    exact yy_ctp F hSw_3 (c_K_demandKind_no X) (yy_Bc F X.1 q_270 q_1) (yy_invS (nA := 1) (bytes := b_K_demandKind) (maxL := 1) (retY := none) F X.1 q_268 q_269 q_1 q_270 ⟨by decide, by decide, by decide +kernel⟩ rfl d_K_freshList_10) d_K_freshList_10 (by simp [Value.category]) ⟨by decide, by decide⟩ ⟨by decide, by decide⟩ trivial (fun H1 hx => ⟨rfl, hx⟩)
  · refine yy_aload_n F d_K_freshList_0 (n := 1) rfl 0 rfl ?_
    refine yy_iload_n F d_K_freshList_1 (n := 2) rfl 1 rfl ?_
    refine yy_crr (w := (some (a_ad A (cN x)))) F hS (k_cat X I hc ex) (yy_Bc F X.1 q_237 q_1) (yy_invV (nA := 1) (C := R_K) (bytes := b_K_containerAt) (maxL := 2) (retY := (some (.object "ContainerKit$Container"))) F X.1 q_234 q_236 qs_K_containerAt q_237 ⟨by decide, by decide, by decide +kernel⟩ (yy_recv F.N X.2.1 (ci := 5) rfl hP.k) rfl d_K_freshList_2) d_K_freshList_2 (n := 5) rfl (by simp [Value.category]) ⟨by decide, by decide⟩ ⟨Nat.zero_le _, Nat.zero_le _⟩ ⟨rfl, rfl⟩ hP rfl (fun _ hSw_5 => ?_)
    refine yy_astore_n (lv' := [(2, .ref (a_ad A (cN x))), (0, .ref (a_k A)), (1, .int x)]) F d_K_freshList_5 (n := 6) rfl (by decide) rfl ?_
    refine yy_aload_n F d_K_freshList_6 (n := 7) rfl 0 rfl ?_
    refine yy_cri (w := (ym_n true)) F hSw_5 (c_C_isList (A := A) (σ := σ) (c := cN x) X I hc) (yy_Bc F X.1 q_260 q_9) (yy_invC (nA := 0) (x := y_C_isList) F X hP hc q_254 q_256 (k_dec X q_255 q_260) (k_sel q_259 q_257 q_258 σ (cN x)) q_255 ⟨by decide, by decide, by decide +kernel⟩ rfl d_K_freshList_7) d_K_freshList_7 (n := 10) rfl (by simp [Value.category]) ⟨by decide, by decide⟩ ⟨Nat.zero_le _, Nat.zero_le _⟩ ⟨rfl, rfl⟩ hP (by rw [hk]) (fun _ hSw_6 => ?_)
    refine yy_crv F hSw_6 (c_K_demandKind X) (yy_Bc F X.1 q_270 q_1) (yy_invS (nA := 1) (bytes := b_K_demandKind) (maxL := 1) (retY := none) F X.1 q_268 q_269 q_1 q_270 ⟨by decide, by decide, by decide +kernel⟩ rfl d_K_freshList_10) d_K_freshList_10 (n := 13) rfl (by simp [Value.category]) ⟨by decide, by decide⟩ ⟨Nat.zero_le _, Nat.zero_le _⟩ ⟨rfl, rfl⟩ trivial (fun _ hSw_7 => ?_)
    refine yy_aload_n F d_K_freshList_13 (n := 14) rfl 0 rfl ?_
    exact yy_ctp F hSw_7 (c_K_demandFresh_no X I hc hs) (yy_Bc F X.1 q_289 q_1) (yy_invS (nA := 1) (bytes := b_K_demandFresh) (maxL := 1) (retY := none) F X.1 q_287 q_288 q_1 q_289 ⟨by decide, by decide, by decide +kernel⟩ rfl d_K_freshList_14) d_K_freshList_14 (by simp [Value.category]) ⟨by decide, by decide⟩ ⟨by decide, by decide⟩ hP (fun H1 hx => ⟨rfl, hx⟩)
set_option maxRecDepth 100000 in
set_option maxHeartbeats 4000000 in
theorem c_K_freshListOrHeap {l : Launch} {z : State} {a0 : Array Value} {D : va_G} {ca : kca} (X : kcx l z a0 D ca) {A : kA} {σ : ks} {t : Nat} (I : iv t σ) {x : Int32} (hE : ch_flh σ x = none) : yy_M l z y_K_freshListOrHeap (.code y_K_freshListOrHeap b_K_freshListOrHeap 3 (some (.object "ContainerKit$Container"))) ({ frames := 2, cells := 0, slots := 0, locals := 40 }) [.ref (a_k A), .int x] (ck_at D ca z A σ) (yy_rr (some (a_ad A (cN x)))) := by
  refine yy_body (plainFor_of_name (by decide)) (Nat.le_of_ble_eq_true rfl) (fun b H F hS hP hH hnm => ?_)
  obtain ⟨hc, ex, hk, hs⟩ := ch_flh_none I.m10 hE
  refine yy_aload_n F d_K_freshListOrHeap_0 (n := 1) rfl 0 rfl ?_
  refine yy_iload_n F d_K_freshListOrHeap_1 (n := 2) rfl 1 rfl ?_
  refine yy_crr (w := (some (a_ad A (cN x)))) F hS (k_cat X I hc ex) (yy_Bc F X.1 q_237 q_1) (yy_invV (nA := 1) (C := R_K) (bytes := b_K_containerAt) (maxL := 2) (retY := (some (.object "ContainerKit$Container"))) F X.1 q_234 q_236 qs_K_containerAt q_237 ⟨by decide, by decide, by decide +kernel⟩ (yy_recv F.N X.2.1 (ci := 5) rfl hP.k) rfl d_K_freshListOrHeap_2) d_K_freshListOrHeap_2 (n := 5) rfl (by simp [Value.category]) ⟨by decide, by decide⟩ ⟨Nat.zero_le _, Nat.zero_le _⟩ ⟨rfl, rfl⟩ hP rfl (fun _ hSw_1 => ?_)
  refine yy_astore_n (lv' := [(2, .ref (a_ad A (cN x))), (0, .ref (a_k A)), (1, .int x)]) F d_K_freshListOrHeap_5 (n := 6) rfl (by decide) rfl ?_
  refine yy_aload_n F d_K_freshListOrHeap_6 (n := 7) rfl 0 rfl ?_
  refine yy_cri (w := (ym_n (k_isl (k_kd σ (cN x))))) F hSw_1 (c_C_isList (A := A) (σ := σ) (c := cN x) X I hc) (yy_Bc F X.1 q_260 q_9) (yy_invC (nA := 0) (x := y_C_isList) F X hP hc q_254 q_256 (k_dec X q_255 q_260) (k_sel q_259 q_257 q_258 σ (cN x)) q_255 ⟨by decide, by decide, by decide +kernel⟩ rfl d_K_freshListOrHeap_7) d_K_freshListOrHeap_7 (n := 10) rfl (by simp [Value.category]) ⟨by decide, by decide⟩ ⟨Nat.zero_le _, Nat.zero_le _⟩ ⟨rfl, rfl⟩ hP rfl (fun _ hSw_2 => ?_)
  cases hl : k_isl (k_kd σ (cN x))
  · refine yy_if_ne_f (tgt := 21) F d_K_freshListOrHeap_10 (n := 13) rfl (by decide) rfl ?_
    refine yy_aload_n F d_K_freshListOrHeap_13 (n := 14) rfl 0 rfl ?_
    refine cr_kind F X g_K_71_G g_K_71_P g_K_71_R hP hc d_K_freshListOrHeap_14 (n := 17) rfl ?_
    refine yy_iconst (v := 5) F d_K_freshListOrHeap_17 (n := 18) rfl rfl ?_
    refine yy_ic_ne (tgt := 25) F d_K_freshListOrHeap_18 (n := 21) rfl (by decide) (fun h5 => ?_) (fun h5 => ?_)
    · exact absurd hk (by unfold k_isf; rw [hl]; simp [h5])
    · refine yy_iconst (v := 1) F d_K_freshListOrHeap_21 (n := 22) rfl rfl ?_
      refine yy_goto (tgt := 26) F d_K_freshListOrHeap_22 (by decide) ?_
      refine yy_crv F hSw_2 (c_K_demandKind X) (yy_Bc F X.1 q_270 q_1) (yy_invS (nA := 1) (bytes := b_K_demandKind) (maxL := 1) (retY := none) F X.1 q_268 q_269 q_1 q_270 ⟨by decide, by decide, by decide +kernel⟩ rfl d_K_freshListOrHeap_26) d_K_freshListOrHeap_26 (n := 29) rfl (by simp [Value.category]) ⟨by decide, by decide⟩ ⟨Nat.zero_le _, Nat.zero_le _⟩ ⟨rfl, rfl⟩ trivial (fun _ hSw_3 => ?_)
      refine yy_aload_n F d_K_freshListOrHeap_29 (n := 30) rfl 0 rfl ?_
      refine yy_crv F hSw_3 (c_K_demandFresh X I hc hs) (yy_Bc F X.1 q_289 q_1) (yy_invS (nA := 1) (bytes := b_K_demandFresh) (maxL := 1) (retY := none) F X.1 q_287 q_288 q_1 q_289 ⟨by decide, by decide, by decide +kernel⟩ rfl d_K_freshListOrHeap_30) d_K_freshListOrHeap_30 (n := 33) rfl (by simp [Value.category]) ⟨by decide, by decide⟩ ⟨Nat.zero_le _, Nat.zero_le _⟩ ⟨rfl, rfl⟩ hP (fun _ hSw_4 => ?_)
      refine yy_aload_n F d_K_freshListOrHeap_33 (n := 34) rfl 0 rfl ?_
      exact yy_aret F hSw_4 ⟨Nat.zero_le _, Nat.zero_le _⟩ rfl (Or.inr ⟨_, rfl⟩) d_K_freshListOrHeap_34 (⟨some _, rfl, rfl, rfl⟩)
  · refine yy_if_ne_t (tgt := 21) F d_K_freshListOrHeap_10 (by decide) (by decide) ?_
    refine yy_iconst (v := 1) F d_K_freshListOrHeap_21 (n := 22) rfl rfl ?_
    refine yy_goto (tgt := 26) F d_K_freshListOrHeap_22 (by decide) ?_
    refine yy_crv F hSw_2 (c_K_demandKind X) (yy_Bc F X.1 q_270 q_1) (yy_invS (nA := 1) (bytes := b_K_demandKind) (maxL := 1) (retY := none) F X.1 q_268 q_269 q_1 q_270 ⟨by decide, by decide, by decide +kernel⟩ rfl d_K_freshListOrHeap_26) d_K_freshListOrHeap_26 (n := 29) rfl (by simp [Value.category]) ⟨by decide, by decide⟩ ⟨Nat.zero_le _, Nat.zero_le _⟩ ⟨rfl, rfl⟩ trivial (fun _ hSw_5 => ?_)
    refine yy_aload_n F d_K_freshListOrHeap_29 (n := 30) rfl 0 rfl ?_
    refine yy_crv F hSw_5 (c_K_demandFresh X I hc hs) (yy_Bc F X.1 q_289 q_1) (yy_invS (nA := 1) (bytes := b_K_demandFresh) (maxL := 1) (retY := none) F X.1 q_287 q_288 q_1 q_289 ⟨by decide, by decide, by decide +kernel⟩ rfl d_K_freshListOrHeap_30) d_K_freshListOrHeap_30 (n := 33) rfl (by simp [Value.category]) ⟨by decide, by decide⟩ ⟨Nat.zero_le _, Nat.zero_le _⟩ ⟨rfl, rfl⟩ hP (fun _ hSw_6 => ?_)
    refine yy_aload_n F d_K_freshListOrHeap_33 (n := 34) rfl 0 rfl ?_
    exact yy_aret F hSw_6 ⟨Nat.zero_le _, Nat.zero_le _⟩ rfl (Or.inr ⟨_, rfl⟩) d_K_freshListOrHeap_34 (⟨some _, rfl, rfl, rfl⟩)
set_option maxRecDepth 100000 in
set_option maxHeartbeats 4000000 in
theorem c_K_freshListOrHeap_no {l : Launch} {z : State} {a0 : Array Value} {D : va_G} {ca : kca} (X : kcx l z a0 D ca) {A : kA} {σ : ks} {t : Nat} (I : iv t σ) {x : Int32} {E : String} (hE : ch_flh σ x = some E) : yy_M l z y_K_freshListOrHeap (.code y_K_freshListOrHeap b_K_freshListOrHeap 3 (some (.object "ContainerKit$Container"))) ({ frames := 7, cells := 1, slots := 6, locals := 103 }) [.ref (a_k A), .int x] (ck_at D ca z A σ) (yy_tx E) := by
  refine yy_body (plainFor_of_name (by decide)) (Nat.le_of_ble_eq_true rfl) (fun b H F hS hP hH hnm => ?_)
  rcases ch_flh_some I.m10 hE with ⟨hin, rfl⟩ | ⟨⟨hc, ex⟩, ⟨hk, rfl⟩ | ⟨hk, hs, rfl⟩⟩
  · refine yy_aload_n F d_K_freshListOrHeap_0 (n := 1) rfl 0 rfl ?_
    refine yy_iload_n F d_K_freshListOrHeap_1 (n := 2) rfl 1 rfl ?_
    exact yy_ctp F hS (c_K_containerAt_no X I hin) (yy_Bc F X.1 q_237 q_1) (yy_invV (nA := 1) (C := R_K) (bytes := b_K_containerAt) (maxL := 2) (retY := (some (.object "ContainerKit$Container"))) F X.1 q_234 q_236 qs_K_containerAt q_237 ⟨by decide, by decide, by decide +kernel⟩ (yy_recv F.N X.2.1 (ci := 5) rfl hP.k) rfl d_K_freshListOrHeap_2) d_K_freshListOrHeap_2 (by simp [Value.category]) ⟨by decide, by decide⟩ ⟨by decide, by decide⟩ hP (fun H1 hx => ⟨rfl, hx⟩)
  · refine yy_aload_n F d_K_freshListOrHeap_0 (n := 1) rfl 0 rfl ?_
    refine yy_iload_n F d_K_freshListOrHeap_1 (n := 2) rfl 1 rfl ?_
    refine yy_crr (w := (some (a_ad A (cN x)))) F hS (k_cat X I hc ex) (yy_Bc F X.1 q_237 q_1) (yy_invV (nA := 1) (C := R_K) (bytes := b_K_containerAt) (maxL := 2) (retY := (some (.object "ContainerKit$Container"))) F X.1 q_234 q_236 qs_K_containerAt q_237 ⟨by decide, by decide, by decide +kernel⟩ (yy_recv F.N X.2.1 (ci := 5) rfl hP.k) rfl d_K_freshListOrHeap_2) d_K_freshListOrHeap_2 (n := 5) rfl (by simp [Value.category]) ⟨by decide, by decide⟩ ⟨Nat.zero_le _, Nat.zero_le _⟩ ⟨rfl, rfl⟩ hP rfl (fun _ hSw_2 => ?_)
    refine yy_astore_n (lv' := [(2, .ref (a_ad A (cN x))), (0, .ref (a_k A)), (1, .int x)]) F d_K_freshListOrHeap_5 (n := 6) rfl (by decide) rfl ?_
    refine yy_aload_n F d_K_freshListOrHeap_6 (n := 7) rfl 0 rfl ?_
    refine yy_cri (w := (ym_n (k_isl (k_kd σ (cN x))))) F hSw_2 (c_C_isList (A := A) (σ := σ) (c := cN x) X I hc) (yy_Bc F X.1 q_260 q_9) (yy_invC (nA := 0) (x := y_C_isList) F X hP hc q_254 q_256 (k_dec X q_255 q_260) (k_sel q_259 q_257 q_258 σ (cN x)) q_255 ⟨by decide, by decide, by decide +kernel⟩ rfl d_K_freshListOrHeap_7) d_K_freshListOrHeap_7 (n := 10) rfl (by simp [Value.category]) ⟨by decide, by decide⟩ ⟨Nat.zero_le _, Nat.zero_le _⟩ ⟨rfl, rfl⟩ hP rfl (fun _ hSw_3 => ?_)
    cases hl : k_isl (k_kd σ (cN x))
    · refine yy_if_ne_f (tgt := 21) F d_K_freshListOrHeap_10 (n := 13) rfl (by decide) rfl ?_
      refine yy_aload_n F d_K_freshListOrHeap_13 (n := 14) rfl 0 rfl ?_
      refine cr_kind F X g_K_71_G g_K_71_P g_K_71_R hP hc d_K_freshListOrHeap_14 (n := 17) rfl ?_
      refine yy_iconst (v := 5) F d_K_freshListOrHeap_17 (n := 18) rfl rfl ?_
      refine yy_ic_ne (tgt := 25) F d_K_freshListOrHeap_18 (n := 21) rfl (by decide) (fun h5 => ?_) (fun h5 => ?_)
      · refine yy_iconst (v := 0) F d_K_freshListOrHeap_25 (n := 26) rfl rfl ?_
        exact yy_ctp F hSw_3 (c_K_demandKind_no X) (yy_Bc F X.1 q_270 q_1) (yy_invS (nA := 1) (bytes := b_K_demandKind) (maxL := 1) (retY := none) F X.1 q_268 q_269 q_1 q_270 ⟨by decide, by decide, by decide +kernel⟩ rfl d_K_freshListOrHeap_26) d_K_freshListOrHeap_26 (by simp [Value.category]) ⟨by decide, by decide⟩ ⟨by decide, by decide⟩ trivial (fun H1 hx => ⟨rfl, hx⟩)
      · exact absurd hk (by unfold k_isf; rw [hl]; simp [h5])
    · refine yy_if_ne_t (tgt := 21) F d_K_freshListOrHeap_10 (by decide) (by decide) ?_
      refine yy_iconst (v := 1) F d_K_freshListOrHeap_21 (n := 22) rfl rfl ?_
      refine yy_goto (tgt := 26) F d_K_freshListOrHeap_22 (by decide) ?_
      rw [show k_isf (k_kd σ (cN x)) = true by unfold k_isf; rw [hl]; rfl] at hk
      cases hk
  · refine yy_aload_n F d_K_freshListOrHeap_0 (n := 1) rfl 0 rfl ?_
    refine yy_iload_n F d_K_freshListOrHeap_1 (n := 2) rfl 1 rfl ?_
    refine yy_crr (w := (some (a_ad A (cN x)))) F hS (k_cat X I hc ex) (yy_Bc F X.1 q_237 q_1) (yy_invV (nA := 1) (C := R_K) (bytes := b_K_containerAt) (maxL := 2) (retY := (some (.object "ContainerKit$Container"))) F X.1 q_234 q_236 qs_K_containerAt q_237 ⟨by decide, by decide, by decide +kernel⟩ (yy_recv F.N X.2.1 (ci := 5) rfl hP.k) rfl d_K_freshListOrHeap_2) d_K_freshListOrHeap_2 (n := 5) rfl (by simp [Value.category]) ⟨by decide, by decide⟩ ⟨Nat.zero_le _, Nat.zero_le _⟩ ⟨rfl, rfl⟩ hP rfl (fun _ hSw_5 => ?_)
    refine yy_astore_n (lv' := [(2, .ref (a_ad A (cN x))), (0, .ref (a_k A)), (1, .int x)]) F d_K_freshListOrHeap_5 (n := 6) rfl (by decide) rfl ?_
    refine yy_aload_n F d_K_freshListOrHeap_6 (n := 7) rfl 0 rfl ?_
    refine yy_cri (w := (ym_n (k_isl (k_kd σ (cN x))))) F hSw_5 (c_C_isList (A := A) (σ := σ) (c := cN x) X I hc) (yy_Bc F X.1 q_260 q_9) (yy_invC (nA := 0) (x := y_C_isList) F X hP hc q_254 q_256 (k_dec X q_255 q_260) (k_sel q_259 q_257 q_258 σ (cN x)) q_255 ⟨by decide, by decide, by decide +kernel⟩ rfl d_K_freshListOrHeap_7) d_K_freshListOrHeap_7 (n := 10) rfl (by simp [Value.category]) ⟨by decide, by decide⟩ ⟨Nat.zero_le _, Nat.zero_le _⟩ ⟨rfl, rfl⟩ hP rfl (fun _ hSw_6 => ?_)
    cases hl : k_isl (k_kd σ (cN x))
    · refine yy_if_ne_f (tgt := 21) F d_K_freshListOrHeap_10 (n := 13) rfl (by decide) rfl ?_
      refine yy_aload_n F d_K_freshListOrHeap_13 (n := 14) rfl 0 rfl ?_
      refine cr_kind F X g_K_71_G g_K_71_P g_K_71_R hP hc d_K_freshListOrHeap_14 (n := 17) rfl ?_
      refine yy_iconst (v := 5) F d_K_freshListOrHeap_17 (n := 18) rfl rfl ?_
      refine yy_ic_ne (tgt := 25) F d_K_freshListOrHeap_18 (n := 21) rfl (by decide) (fun h5 => ?_) (fun h5 => ?_)
      · exact absurd hk (by unfold k_isf; rw [hl]; simp [h5])
      · refine yy_iconst (v := 1) F d_K_freshListOrHeap_21 (n := 22) rfl rfl ?_
        refine yy_goto (tgt := 26) F d_K_freshListOrHeap_22 (by decide) ?_
        refine yy_crv F hSw_6 (c_K_demandKind X) (yy_Bc F X.1 q_270 q_1) (yy_invS (nA := 1) (bytes := b_K_demandKind) (maxL := 1) (retY := none) F X.1 q_268 q_269 q_1 q_270 ⟨by decide, by decide, by decide +kernel⟩ rfl d_K_freshListOrHeap_26) d_K_freshListOrHeap_26 (n := 29) rfl (by simp [Value.category]) ⟨by decide, by decide⟩ ⟨Nat.zero_le _, Nat.zero_le _⟩ ⟨rfl, rfl⟩ trivial (fun _ hSw_7 => ?_)
        refine yy_aload_n F d_K_freshListOrHeap_29 (n := 30) rfl 0 rfl ?_
        exact yy_ctp F hSw_7 (c_K_demandFresh_no X I hc hs) (yy_Bc F X.1 q_289 q_1) (yy_invS (nA := 1) (bytes := b_K_demandFresh) (maxL := 1) (retY := none) F X.1 q_287 q_288 q_1 q_289 ⟨by decide, by decide, by decide +kernel⟩ rfl d_K_freshListOrHeap_30) d_K_freshListOrHeap_30 (by simp [Value.category]) ⟨by decide, by decide⟩ ⟨by decide, by decide⟩ hP (fun H1 hx => ⟨rfl, hx⟩)
    · refine yy_if_ne_t (tgt := 21) F d_K_freshListOrHeap_10 (by decide) (by decide) ?_
      refine yy_iconst (v := 1) F d_K_freshListOrHeap_21 (n := 22) rfl rfl ?_
      refine yy_goto (tgt := 26) F d_K_freshListOrHeap_22 (by decide) ?_
      refine yy_crv F hSw_6 (c_K_demandKind X) (yy_Bc F X.1 q_270 q_1) (yy_invS (nA := 1) (bytes := b_K_demandKind) (maxL := 1) (retY := none) F X.1 q_268 q_269 q_1 q_270 ⟨by decide, by decide, by decide +kernel⟩ rfl d_K_freshListOrHeap_26) d_K_freshListOrHeap_26 (n := 29) rfl (by simp [Value.category]) ⟨by decide, by decide⟩ ⟨Nat.zero_le _, Nat.zero_le _⟩ ⟨rfl, rfl⟩ trivial (fun _ hSw_9 => ?_)
      refine yy_aload_n F d_K_freshListOrHeap_29 (n := 30) rfl 0 rfl ?_
      exact yy_ctp F hSw_9 (c_K_demandFresh_no X I hc hs) (yy_Bc F X.1 q_289 q_1) (yy_invS (nA := 1) (bytes := b_K_demandFresh) (maxL := 1) (retY := none) F X.1 q_287 q_288 q_1 q_289 ⟨by decide, by decide, by decide +kernel⟩ rfl d_K_freshListOrHeap_30) d_K_freshListOrHeap_30 (by simp [Value.category]) ⟨by decide, by decide⟩ ⟨by decide, by decide⟩ hP (fun H1 hx => ⟨rfl, hx⟩)
theorem c_K_openedWalkAt_x {l : Launch} {z : State} {a0 : Array Value} {D : va_G} {ca : kca} (X : kcx l z a0 D ca) {A : kA} {σ : ks} {t : Nat} (I : iv t σ) {x : Int32} (hE : ch_wk σ x = none) : yy_M l z y_K_openedWalkAt (.code y_K_openedWalkAt b_K_openedWalkAt 3 (some (.object "ContainerKit$Walk"))) ({ frames := 1, cells := 0, slots := 0, locals := 21 }) [.ref (a_k A), .int x] (ck_at D ca z A σ) (yy_rr (some (a_wd A (cN x)))) := by
  obtain ⟨hi, ex, hov, -⟩ := ch_wk_none I hE
  have h9 := c_K_openedWalkAt (A := A) X I hi hov
  rw [← ex] at h9
  exact h9
set_option maxRecDepth 100000 in
set_option maxHeartbeats 4000000 in
theorem c_K_openedWalkAt_no {l : Launch} {z : State} {a0 : Array Value} {D : va_G} {ca : kca} (X : kcx l z a0 D ca) {A : kA} {σ : ks} {t : Nat} (I : iv t σ) {x : Int32} {E : String} (hE : ch_wk σ x = some E) : yy_M l z y_K_openedWalkAt (.code y_K_openedWalkAt b_K_openedWalkAt 3 (some (.object "ContainerKit$Walk"))) ({ frames := 7, cells := 1, slots := 6, locals := 103 }) [.ref (a_k A), .int x] (ck_at D ca z A σ) (yy_tx E) := by
  refine yy_body (plainFor_of_name (by decide)) (Nat.le_of_ble_eq_true rfl) (fun b H F hS hP hH hnm => ?_)
  obtain ⟨h | ⟨⟨hi, ex⟩, hov⟩, rfl⟩ := ch_wk_some hE
  · refine yy_aload_n F d_K_openedWalkAt_0 (n := 1) rfl 0 rfl ?_
    refine yy_iload_n F d_K_openedWalkAt_1 (n := 2) rfl 1 rfl ?_
    exact yy_ctp F hS (c_K_walkAt_no X I h) (yy_Bc F X.1 q_769 q_1) (yy_invV (nA := 1) (C := R_K) (bytes := b_K_walkAt) (maxL := 2) (retY := (some (.object "ContainerKit$Walk"))) F X.1 q_766 q_768 qs_K_walkAt q_769 ⟨by decide, by decide, by decide +kernel⟩ (yy_recv F.N X.2.1 (ci := 5) rfl hP.k) rfl d_K_openedWalkAt_2) d_K_openedWalkAt_2 (by simp [Value.category]) ⟨by decide, by decide⟩ ⟨by decide, by decide⟩ hP (fun H1 hx => ⟨rfl, hx⟩)
  · have hw9 : va_at D kcl (a_wd A (cN x), .inr (4, [.null, .int (nI (k_W σ (cN x)).2.1), .int (k_W σ (cN x)).2.2.1, .int (nI (k_W σ (cN x)).2.2.2)])) H := by
      have h := hP.w hi
      unfold wk_at at h
      rw [hov] at h
      exact h
    refine yy_aload_n F d_K_openedWalkAt_0 (n := 1) rfl 0 rfl ?_
    refine yy_iload_n F d_K_openedWalkAt_1 (n := 2) rfl 1 rfl ?_
    refine yy_crr (w := (some (a_wd A (cN x)))) F hS (k_wat X I hi ex) (yy_Bc F X.1 q_769 q_1) (yy_invV (nA := 1) (C := R_K) (bytes := b_K_walkAt) (maxL := 2) (retY := (some (.object "ContainerKit$Walk"))) F X.1 q_766 q_768 qs_K_walkAt q_769 ⟨by decide, by decide, by decide +kernel⟩ (yy_recv F.N X.2.1 (ci := 5) rfl hP.k) rfl d_K_openedWalkAt_2) d_K_openedWalkAt_2 (n := 5) rfl (by simp [Value.category]) ⟨by decide, by decide⟩ ⟨Nat.zero_le _, Nat.zero_le _⟩ ⟨rfl, rfl⟩ hP rfl (fun _ hSw_2 => ?_)
    refine yy_astore_n (lv' := [(2, .ref (a_wd A (cN x))), (0, .ref (a_k A)), (1, .int x)]) F d_K_openedWalkAt_5 (n := 6) rfl (by decide) rfl ?_
    refine yy_aload_n F d_K_openedWalkAt_6 (n := 7) rfl 0 rfl ?_
    refine yy_get F X.1 X.2.1 g_K_171_W hw9 rfl d_K_openedWalkAt_7 (n := 10) rfl ?_
    refine yy_ifnonnull_f F d_K_openedWalkAt_10 (n := 13) rfl ?_
    refine yy_clean hH ?_
    obtain ⟨sa, hsa⟩ := str_204 X
    exact yy_throwS F X.1 X.2.2.2 (cls := "java/lang/IndexOutOfBoundsException") (names := ["java/lang/RuntimeException", "java/lang/Exception"]) (by decide +kernel) (by decide +kernel) q_238 q_12 hsa (yy_hat X F.N oa_199) hH ⟨by decide, by decide⟩ ⟨by decide, by decide⟩ d_K_openedWalkAt_13 d_K_openedWalkAt_16 d_K_openedWalkAt_17 d_K_openedWalkAt_19 d_K_openedWalkAt_22 (fun H1 hx => ⟨rfl, hx⟩)
def ch_key (σ : ks) (c : Nat) (key : Int32) : Option String := if k_cov σ c key = true then (match k_at σ c key with | some _ => none | none => if 24 ≤ s_ct (k_B σ c) then some e_is else none) else some e_ia
set_option maxRecDepth 100000 in
set_option maxHeartbeats 4000000 in
theorem c_K_demandKeyFits {l : Launch} {z : State} {a0 : Array Value} {D : va_G} {ca : kca} (X : kcx l z a0 D ca) {A : kA} {σ : ks} {t : Nat} (I : iv t σ) {c : Nat} (hc : c < k_m σ) (h6 : ¬ k_kd σ c = 6) {key : Int32} (hE : ch_key σ c key = none) : yy_M l z y_K_demandKeyFits (.code y_K_demandKeyFits b_K_demandKeyFits 2 none) ({ frames := 3, cells := 0, slots := 0, locals := 65 }) [.ref (a_ad A c), .int key] (ck_at D ca z A σ) (yy_rv) := by
  refine yy_body (plainFor_of_name (by decide)) (Nat.le_of_ble_eq_true rfl) (fun b H F hS hP hH hnm => ?_)
  unfold ch_key at hE
  refine yy_aload_n F d_K_demandKeyFits_0 (n := 1) rfl 0 rfl ?_
  refine yy_iload_n F d_K_demandKeyFits_1 (n := 2) rfl 1 rfl ?_
  refine vd_covers F X I hc hP hS q_599 ⟨by decide, by decide⟩ (by simp [Value.category]) d_K_demandKeyFits_2 (n := 5) rfl ⟨Nat.zero_le _, Nat.zero_le _⟩ (fun _ hS_1 => ?_)
  cases hcv : k_cov σ c key
  · rw [hcv] at hE
    cases hE
  · rw [hcv, if_pos rfl] at hE
    refine yy_crv F hS_1 (c_K_demandArgument X) (yy_Bc F X.1 q_72 q_1) (yy_invS (nA := 1) (bytes := b_K_demandArgument) (maxL := 1) (retY := none) F X.1 q_70 q_71 q_1 q_72 ⟨by decide, by decide, by decide +kernel⟩ rfl d_K_demandKeyFits_5) d_K_demandKeyFits_5 (n := 8) rfl (by simp [Value.category]) ⟨by decide, by decide⟩ ⟨Nat.zero_le _, Nat.zero_le _⟩ ⟨rfl, rfl⟩ trivial (fun _ hSw_2 => ?_)
    refine yy_aload_n F d_K_demandKeyFits_8 (n := 9) rfl 0 rfl ?_
    refine yy_iload_n F d_K_demandKeyFits_9 (n := 10) rfl 1 rfl ?_
    refine yy_cri (w := (k_pl σ c key)) F hSw_2 (c_C_placeOf (A := A) (σ := σ) (c := c) X I hc) (yy_Bc F X.1 q_614 q_9) (yy_invC (nA := 1) (x := y_C_placeOf) F X hP hc q_608 q_610 (k_dec X q_609 q_614) (k_sel q_613 q_611 q_612 σ c) q_609 ⟨by decide, by decide, by decide +kernel⟩ rfl d_K_demandKeyFits_10) d_K_demandKeyFits_10 (n := 13) rfl (by simp [Value.category]) ⟨by decide, by decide⟩ ⟨Nat.zero_le _, Nat.zero_le _⟩ ⟨rfl, rfl⟩ hP rfl (fun _ hSw_3 => ?_)
    refine yy_iconst (v := (-1)) F d_K_demandKeyFits_13 (n := 14) rfl rfl ?_
    cases hat : k_at σ c key with
    | none =>
      rw [hat] at hE
      have h24 : ¬ 24 ≤ s_ct (k_B σ c) := fun q => by
        rw [show (match (none : Option Nat) with | some _ => (none : Option String) | none => if 24 ≤ s_ct (k_B σ c) then some e_is else none) = some e_is from if_pos q] at hE
        cases hE
      refine yy_ic_ne_f (tgt := 24) F d_K_demandKeyFits_14 (n := 17) rfl (by decide) (k_pl_none hat) ?_
      refine yy_aload_n F d_K_demandKeyFits_17 (n := 18) rfl 0 rfl ?_
      refine cr_store F X g_K_95_G g_K_95_P g_K_95_R hP hc d_K_demandKeyFits_18 (n := 21) rfl ?_
      refine yy_crv F hSw_3 (c_K_demandSpace X I hc h24) (yy_Bc F X.1 q_494 q_1) (yy_invS (nA := 1) (bytes := b_K_demandSpace) (maxL := 1) (retY := none) F X.1 q_492 q_493 q_1 q_494 ⟨by decide, by decide, by decide +kernel⟩ rfl d_K_demandKeyFits_21) d_K_demandKeyFits_21 (n := 24) rfl (by simp [Value.category]) ⟨by decide, by decide⟩ ⟨Nat.zero_le _, Nat.zero_le _⟩ ⟨rfl, rfl⟩ hP (fun _ hSw_4 => ?_)
      exact yy_vret F hSw_4 ⟨Nat.zero_le _, Nat.zero_le _⟩ rfl d_K_demandKeyFits_24 (⟨rfl, rfl⟩)
    | some p =>
      refine yy_ic_ne_t (tgt := 24) F d_K_demandKeyFits_14 (by decide) ((k_pl_some I hc h6 hat).2) ?_
      exact yy_vret F hSw_3 ⟨Nat.zero_le _, Nat.zero_le _⟩ rfl d_K_demandKeyFits_24 (⟨rfl, rfl⟩)
set_option maxRecDepth 100000 in
set_option maxHeartbeats 4000000 in
theorem c_K_demandKeyFits_no {l : Launch} {z : State} {a0 : Array Value} {D : va_G} {ca : kca} (X : kcx l z a0 D ca) {A : kA} {σ : ks} {t : Nat} (I : iv t σ) {c : Nat} (hc : c < k_m σ) (h6 : ¬ k_kd σ c = 6) {key : Int32} {E : String} (hE : ch_key σ c key = some E) : yy_M l z y_K_demandKeyFits (.code y_K_demandKeyFits b_K_demandKeyFits 2 none) ({ frames := 7, cells := 1, slots := 6, locals := 102 }) [.ref (a_ad A c), .int key] (ck_at D ca z A σ) (yy_tx E) := by
  refine yy_body (plainFor_of_name (by decide)) (Nat.le_of_ble_eq_true rfl) (fun b H F hS hP hH hnm => ?_)
  unfold ch_key at hE
  refine yy_aload_n F d_K_demandKeyFits_0 (n := 1) rfl 0 rfl ?_
  refine yy_iload_n F d_K_demandKeyFits_1 (n := 2) rfl 1 rfl ?_
  refine vd_covers F X I hc hP hS q_599 ⟨by decide, by decide⟩ (by simp [Value.category]) d_K_demandKeyFits_2 (n := 5) rfl ⟨Nat.zero_le _, Nat.zero_le _⟩ (fun _ hS_1 => ?_)
  cases hcv : k_cov σ c key
  · rw [hcv] at hE
    cases hE
    exact yy_ctp F hS_1 (c_K_demandArgument_no X) (yy_Bc F X.1 q_72 q_1) (yy_invS (nA := 1) (bytes := b_K_demandArgument) (maxL := 1) (retY := none) F X.1 q_70 q_71 q_1 q_72 ⟨by decide, by decide, by decide +kernel⟩ rfl d_K_demandKeyFits_5) d_K_demandKeyFits_5 (by simp [Value.category]) ⟨by decide, by decide⟩ ⟨by decide, by decide⟩ trivial (fun H1 hx => ⟨rfl, hx⟩)
  · rw [hcv, if_pos rfl] at hE
    refine yy_crv F hS_1 (c_K_demandArgument X) (yy_Bc F X.1 q_72 q_1) (yy_invS (nA := 1) (bytes := b_K_demandArgument) (maxL := 1) (retY := none) F X.1 q_70 q_71 q_1 q_72 ⟨by decide, by decide, by decide +kernel⟩ rfl d_K_demandKeyFits_5) d_K_demandKeyFits_5 (n := 8) rfl (by simp [Value.category]) ⟨by decide, by decide⟩ ⟨Nat.zero_le _, Nat.zero_le _⟩ ⟨rfl, rfl⟩ trivial (fun _ hSw_3 => ?_)
    refine yy_aload_n F d_K_demandKeyFits_8 (n := 9) rfl 0 rfl ?_
    refine yy_iload_n F d_K_demandKeyFits_9 (n := 10) rfl 1 rfl ?_
    refine yy_cri (w := (k_pl σ c key)) F hSw_3 (c_C_placeOf (A := A) (σ := σ) (c := c) X I hc) (yy_Bc F X.1 q_614 q_9) (yy_invC (nA := 1) (x := y_C_placeOf) F X hP hc q_608 q_610 (k_dec X q_609 q_614) (k_sel q_613 q_611 q_612 σ c) q_609 ⟨by decide, by decide, by decide +kernel⟩ rfl d_K_demandKeyFits_10) d_K_demandKeyFits_10 (n := 13) rfl (by simp [Value.category]) ⟨by decide, by decide⟩ ⟨Nat.zero_le _, Nat.zero_le _⟩ ⟨rfl, rfl⟩ hP rfl (fun _ hSw_4 => ?_)
    refine yy_iconst (v := (-1)) F d_K_demandKeyFits_13 (n := 14) rfl rfl ?_
    cases hat : k_at σ c key with
    | none =>
      rw [hat] at hE
      by_cases h24 : 24 ≤ s_ct (k_B σ c)
      · rw [show (match (none : Option Nat) with | some _ => (none : Option String) | none => if 24 ≤ s_ct (k_B σ c) then some e_is else none) = some e_is from if_pos h24] at hE
        cases hE
        refine yy_ic_ne_f (tgt := 24) F d_K_demandKeyFits_14 (n := 17) rfl (by decide) (k_pl_none hat) ?_
        refine yy_aload_n F d_K_demandKeyFits_17 (n := 18) rfl 0 rfl ?_
        refine cr_store F X g_K_95_G g_K_95_P g_K_95_R hP hc d_K_demandKeyFits_18 (n := 21) rfl ?_
        exact yy_ctp F hSw_4 (c_K_demandSpace_no X I hc h24) (yy_Bc F X.1 q_494 q_1) (yy_invS (nA := 1) (bytes := b_K_demandSpace) (maxL := 1) (retY := none) F X.1 q_492 q_493 q_1 q_494 ⟨by decide, by decide, by decide +kernel⟩ rfl d_K_demandKeyFits_21) d_K_demandKeyFits_21 (by simp [Value.category]) ⟨by decide, by decide⟩ ⟨by decide, by decide⟩ hP (fun H1 hx => ⟨rfl, hx⟩)
      · rw [show (match (none : Option Nat) with | some _ => (none : Option String) | none => if 24 ≤ s_ct (k_B σ c) then some e_is else none) = none from if_neg h24] at hE
        cases hE
    | some p =>
      rw [hat] at hE
      cases hE
end
