-- ===== the law's words are the tables' =====
theorem lw_i1 : ∀ w ∈ wsL_law0_r1, w ∈ lw_tbl := fun w h => (goodIn_p wsL_law0_r1 [84, 87] (by decide +kernel) (by decide +kernel) w h).1
theorem lw_i2 : ∀ w ∈ wsL_law0_r2, w ∈ lw_tbl := fun w h => (goodIn_p wsL_law0_r2 [92, 95, 98, 118] (by decide +kernel) (by decide +kernel) w h).1
theorem lw_i3 : ∀ w ∈ wsL_law0_r3, w ∈ lw_tbl := fun w h => (goodIn_p wsL_law0_r3 [988, 322] (by decide +kernel) (by decide +kernel) w h).1
theorem lw_i4 : ∀ w ∈ wsL_law0_r4, w ∈ lw_tbl := fun w h => (goodIn_p wsL_law0_r4 [325, 393, 186, 194] (by decide +kernel) (by decide +kernel) w h).1
theorem lw_i5 : ∀ w ∈ wsL_law0_r5, w ∈ lw_tbl := fun w h => (goodIn_p wsL_law0_r5 [197, 200, 204, 411] (by decide +kernel) (by decide +kernel) w h).1
theorem lw_i6 : ∀ w ∈ wsL_law0_r6, w ∈ lw_tbl := fun w h => (goodIn_p wsL_law0_r6 [448, 452, 456, 460, 308, 463] (by decide +kernel) (by decide +kernel) w h).1
theorem lw_i7 : ∀ w ∈ wsL_law0_r7, w ∈ lw_tbl := fun w h => (goodIn_p wsL_law0_r7 [468, 471, 489, 495] (by decide +kernel) (by decide +kernel) w h).1
theorem lw_i8 : ∀ w ∈ wsL_law0_r8, w ∈ lw_tbl := fun w h => (goodIn_p wsL_law0_r8 [504, 508, 512, 1031, 1034] (by decide +kernel) (by decide +kernel) w h).1
theorem lw_i9 : ∀ w ∈ wsL_law0_r9, w ∈ lw_tbl := fun w h => (goodIn_p wsL_law0_r9 [1038, 1042, 1046, 1027, 783] (by decide +kernel) (by decide +kernel) w h).1
theorem lw_i10 : ∀ w ∈ wsL_law0_r10, w ∈ lw_tbl := fun w h => (goodIn_p wsL_law0_r10 [787, 796, 800, 1050, 1054] (by decide +kernel) (by decide +kernel) w h).1
theorem lw_i11 : ∀ w ∈ wsL_law0_r11, w ∈ lw_tbl := fun w h => (goodIn_p wsL_law0_r11 [807, 1058, 814, 1062] (by decide +kernel) (by decide +kernel) w h).1
theorem lw_i12 : ∀ w ∈ wsL_law0_r12, w ∈ lw_tbl := fun w h => (goodIn_p wsL_law0_r12 [823, 242, 246, 214] (by decide +kernel) (by decide +kernel) w h).1
theorem lw_i13 : ∀ w ∈ wsL_law0_r13, w ∈ lw_tbl := fun w h => (goodIn_p wsL_law0_r13 [218, 221, 226, 230, 1068] (by decide +kernel) (by decide +kernel) w h).1
theorem lw_i14 : ∀ w ∈ wsL_law0_r14, w ∈ lw_tbl := fun w h => (goodIn_p wsL_law0_r14 [1072, 1076, 1080, 1084, 1088] (by decide +kernel) (by decide +kernel) w h).1
theorem lw_i15 : ∀ w ∈ wsL_law0_r15, w ∈ lw_tbl := fun w h => (goodIn_p wsL_law0_r15 [830, 270, 274, 1093, 1096] (by decide +kernel) (by decide +kernel) w h).1
theorem lw_i16 : ∀ w ∈ wsL_law0_r16, w ∈ lw_tbl := fun w h => (goodIn_p wsL_law0_r16 [1101, 839, 843, 1105] (by decide +kernel) (by decide +kernel) w h).1
theorem lw_i17 : ∀ w ∈ wsL_law0_r17, w ∈ lw_tbl := fun w h => (goodIn_p wsL_law0_r17 [864, 868, 1110, 1114, 876] (by decide +kernel) (by decide +kernel) w h).1
theorem lw_i18 : ∀ w ∈ wsL_law0_r18, w ∈ lw_tbl := fun w h => (goodIn_p wsL_law0_r18 [266, 1118, 1122, 883] (by decide +kernel) (by decide +kernel) w h).1
theorem lw_i19 : ∀ w ∈ wsL_law0_r19, w ∈ lw_tbl := fun w h => (goodIn_p wsL_law0_r19 [258, 888, 892, 1127] (by decide +kernel) (by decide +kernel) w h).1
theorem lw_i20 : ∀ w ∈ wsL_law0_r20, w ∈ lw_tbl := fun w h => (goodIn_p wsL_law0_r20 [899, 254, 280, 283] (by decide +kernel) (by decide +kernel) w h).1
theorem lw_i21 : ∀ w ∈ wsL_law0_r21, w ∈ lw_tbl := fun w h => (goodIn_p wsL_law0_r21 [287, 291, 296, 301, 305, 312] (by decide +kernel) (by decide +kernel) w h).1
theorem lw_i22 : ∀ w ∈ wsL_law0_r22, w ∈ lw_tbl := fun w h => (goodIn_p wsL_law0_r22 [1131, 1135, 1139, 1143, 1147] (by decide +kernel) (by decide +kernel) w h).1
theorem lw_i23 : ∀ w ∈ wsL_law0_r23, w ∈ lw_tbl := fun w h => (goodIn_p wsL_law0_r23 [1151, 1156, 1160, 1164, 906] (by decide +kernel) (by decide +kernel) w h).1
theorem lw_i24 : ∀ w ∈ wsL_law0_r24, w ∈ lw_tbl := fun w h => (goodIn_p wsL_law0_r24 [910, 1169, 1173, 917] (by decide +kernel) (by decide +kernel) w h).1
theorem lw_i25 : ∀ w ∈ wsL_law0_r25, w ∈ lw_tbl := fun w h => (goodIn_p wsL_law0_r25 [1177, 924, 928, 1181, 936] (by decide +kernel) (by decide +kernel) w h).1
theorem lw_i26 : ∀ w ∈ wsL_law0_r26, w ∈ lw_tbl := fun w h => (goodIn_p wsL_law0_r26 [1185, 944, 948, 952, 1189] (by decide +kernel) (by decide +kernel) w h).1
theorem lw_i27 : ∀ w ∈ wsL_law0_r27, w ∈ lw_tbl := fun w h => (goodIn_p wsL_law0_r27 [959, 963, 1193, 972] (by decide +kernel) (by decide +kernel) w h).1
theorem lw_i28 : ∀ w ∈ wsL_law0_r28, w ∈ lw_tbl := fun w h => (goodIn_p wsL_law0_r28 [182, 190, 209, 234, 238, 1197] (by decide +kernel) (by decide +kernel) w h).1
theorem lw_i29 : ∀ w ∈ wsL_law0_r29, w ∈ lw_tbl := fun w h => (goodIn_p wsL_law0_r29 [1201, 979, 983, 1205, 176] (by decide +kernel) (by decide +kernel) w h).1
theorem lw_i30 : ∀ w ∈ wsL_law0_r30, w ∈ lw_tbl := fun w h => (goodIn_p wsL_law0_r30 [250, 1209] (by decide +kernel) (by decide +kernel) w h).1
theorem lw_i0 : ∀ w ∈ (wsL_law0_r1 ++ (wsL_law0_r2 ++ (wsL_law0_r3 ++ (wsL_law0_r4 ++ (wsL_law0_r5 ++ (wsL_law0_r6 ++ (wsL_law0_r7 ++ (wsL_law0_r8 ++ (wsL_law0_r9 ++ (wsL_law0_r10 ++ (wsL_law0_r11 ++ (wsL_law0_r12 ++ (wsL_law0_r13 ++ (wsL_law0_r14 ++ (wsL_law0_r15 ++ (wsL_law0_r16 ++ (wsL_law0_r17 ++ (wsL_law0_r18 ++ (wsL_law0_r19 ++ (wsL_law0_r20 ++ (wsL_law0_r21 ++ (wsL_law0_r22 ++ (wsL_law0_r23 ++ (wsL_law0_r24 ++ (wsL_law0_r25 ++ (wsL_law0_r26 ++ (wsL_law0_r27 ++ (wsL_law0_r28 ++ (wsL_law0_r29 ++ (wsL_law0_r30)))))))))))))))))))))))))))))), w ∈ lw_tbl := List.forall_mem_append.mpr ⟨lw_i1, List.forall_mem_append.mpr ⟨lw_i2, List.forall_mem_append.mpr ⟨lw_i3, List.forall_mem_append.mpr ⟨lw_i4, List.forall_mem_append.mpr ⟨lw_i5, List.forall_mem_append.mpr ⟨lw_i6, List.forall_mem_append.mpr ⟨lw_i7, List.forall_mem_append.mpr ⟨lw_i8, List.forall_mem_append.mpr ⟨lw_i9, List.forall_mem_append.mpr ⟨lw_i10, List.forall_mem_append.mpr ⟨lw_i11, List.forall_mem_append.mpr ⟨lw_i12, List.forall_mem_append.mpr ⟨lw_i13, List.forall_mem_append.mpr ⟨lw_i14, List.forall_mem_append.mpr ⟨lw_i15, List.forall_mem_append.mpr ⟨lw_i16, List.forall_mem_append.mpr ⟨lw_i17, List.forall_mem_append.mpr ⟨lw_i18, List.forall_mem_append.mpr ⟨lw_i19, List.forall_mem_append.mpr ⟨lw_i20, List.forall_mem_append.mpr ⟨lw_i21, List.forall_mem_append.mpr ⟨lw_i22, List.forall_mem_append.mpr ⟨lw_i23, List.forall_mem_append.mpr ⟨lw_i24, List.forall_mem_append.mpr ⟨lw_i25, List.forall_mem_append.mpr ⟨lw_i26, List.forall_mem_append.mpr ⟨lw_i27, List.forall_mem_append.mpr ⟨lw_i28, List.forall_mem_append.mpr ⟨lw_i29, lw_i30⟩⟩⟩⟩⟩⟩⟩⟩⟩⟩⟩⟩⟩⟩⟩⟩⟩⟩⟩⟩⟩⟩⟩⟩⟩⟩⟩⟩⟩
theorem lw_jX3 : ∀ w ∈ wsX30, w ∈ lw_tbl := by decide +kernel
theorem lw_jX4 : ∀ w ∈ wsX40, w ∈ lw_tbl := by decide +kernel
theorem lw_jJx4a65c : ∀ w ∈ wsJx4a65c0, w ∈ lw_tbl := by decide +kernel
theorem lw_jX1 : ∀ w ∈ wsX10, w ∈ lw_tbl := by decide +kernel
theorem lw_jX2 : ∀ w ∈ wsX20, w ∈ lw_tbl := by decide +kernel
theorem lw_jX0 : ∀ w ∈ wsX00, w ∈ lw_tbl := by decide +kernel
theorem lw_k0 : ∀ w ∈ wsL_law0, w ∈ lw_tbl := List.forall_mem_append.mpr ⟨List.forall_mem_append.mpr ⟨List.forall_mem_append.mpr ⟨List.forall_mem_append.mpr ⟨List.forall_mem_append.mpr ⟨List.forall_mem_append.mpr ⟨List.forall_mem_append.mpr ⟨lw_i0, lw_jX3⟩, lw_jX4⟩, lw_jJx4a65c⟩, lw_jX1⟩, lw_jX2⟩, lw_jX0⟩, fun w h => nomatch h⟩
theorem wsL_law_x0 : ∀ w ∈ (vx_at0 RX3 39 "java/lang/IllegalArgumentException" ["java/lang/RuntimeException", "java/lang/Exception"]).filter goodWord, w ∈ lw_tbl := by decide +kernel
theorem wsL_law_x1 : ∀ w ∈ (vx_at0 RX3 50 "java/lang/IllegalStateException" ["java/lang/RuntimeException", "java/lang/Exception"]).filter goodWord, w ∈ lw_tbl := by decide +kernel
theorem wsL_law_x2 : ∀ w ∈ (vx_at0 RX3 72 "java/lang/IndexOutOfBoundsException" ["java/lang/RuntimeException", "java/lang/Exception"]).filter goodWord, w ∈ lw_tbl := by decide +kernel
theorem wsL_law_in : ∀ w ∈ wsL_law, w ∈ lw_tbl := fun w h => (List.mem_append.mp h).elim (fun h => (List.mem_append.mp h).elim (fun h => (List.mem_append.mp h).elim (fun h => lw_k0 w h) (fun h => wsL_law_x0 w h)) (fun h => wsL_law_x1 w h)) (fun h => wsL_law_x2 w h)
