abbrev rmX4_isIn : Room := { frames := 0, cells := 0, slots := 0, locals := 0 }
theorem qdX4_isIn : yX4_isIn.cls = RX4 ∧ yX4_isIn.cls ≠ "java/lang/invoke/MethodHandle" ∧ yX4_isIn.cls ≠ "java/lang/invoke/VarHandle" ∧ (parseMethodDescriptor yX4_isIn.desc).map (fun d => d.parameters.length) = some 3 := by decide +kernel
set_option maxHeartbeats 4000000 in
set_option maxRecDepth 100000 in
theorem c_X4_isIn {l : Launch} {G : gT} {H : Heap} {v lo hi : Int32} : Rd G l yX4_isIn wsX4_isIn rmX4_isIn [.int v, .int lo, .int hi] H (.int (bI (inR lo hi v))) := by
  refine x_head (bytes := cX4_isIn) (maxL := 3) (ret := (some .boolean)) (by decide) rfl (Nat.le_of_ble_eq_true rfl) ?_
  intro p e s m below meth c ls hx hb hml hown hts hr hlk hnm hK hs0 hl Q hQ
  have hl : lv_has ls 3 [(0, .int v), (1, .int lo), (2, .int hi)] := hl
  have hC : CallFix p m c cX4_isIn 3 s [.int v, .int lo, .int hi].toArray wsX4_isIn RX4 := ⟨hx, hb, hml, hown, hts⟩
  refine lv_iload_n hx hb dX4_isIn_0 rfl (lv_at hl 0 rfl) ?_
  refine lv_iload_n hx hb dX4_isIn_1 rfl (lv_at hl 1 rfl) ?_
  refine lv_icmp_lt (tgt := 14) hx hb dX4_isIn_2 (by decide) (fun c_1 => ?_) (fun c_1 => ?_)
  · refine lv_iconst (v := nI 0) hx hb dX4_isIn_14 (by decide +kernel) ?_
    exact x_rdi hQ hx hb hr (by decide) hlk (by simp [inR, bI, nI, c_1]; try decide) dX4_isIn_15
  · refine lv_iload_n hx hb dX4_isIn_5 rfl (lv_at hl 0 rfl) ?_
    refine lv_iload_n hx hb dX4_isIn_6 rfl (lv_at hl 2 rfl) ?_
    refine lv_icmp_gt (tgt := 14) hx hb dX4_isIn_7 (by decide) (fun c_2 => ?_) (fun c_2 => ?_)
    · refine lv_iconst (v := nI 0) hx hb dX4_isIn_14 (by decide +kernel) ?_
      exact x_rdi hQ hx hb hr (by decide) hlk (by simp [inR, bI, nI, c_1, c_2]; try decide) dX4_isIn_15
    · refine lv_iconst (v := nI 1) hx hb dX4_isIn_10 (by decide +kernel) ?_
      refine lv_goto (tgt := 15) hx hb dX4_isIn_11 (by decide) ?_
      exact x_rdi hQ hx hb hr (by decide) hlk (by simp [inR, bI, nI, c_1, c_2]; try decide) dX4_isIn_15
abbrev rmX4_isTime : Room := { frames := 1, cells := 0, slots := 0, locals := 22 }
theorem qdX4_isTime : yX4_isTime.cls = RX4 ∧ yX4_isTime.cls ≠ "java/lang/invoke/MethodHandle" ∧ yX4_isTime.cls ≠ "java/lang/invoke/VarHandle" ∧ (parseMethodDescriptor yX4_isTime.desc).map (fun d => d.parameters.length) = some 1 := by decide +kernel
set_option maxHeartbeats 4000000 in
set_option maxRecDepth 100000 in
theorem c_X4_isTime {l : Launch} {G : gT} {H : Heap} {v : Int32} : Rd G l yX4_isTime wsX4_isTime rmX4_isTime [.int v] H (.int (bI (inR (nI 0) (nI 1000000) v))) := by
  refine x_head (bytes := cX4_isTime) (maxL := 1) (ret := (some .boolean)) (by decide) rfl (Nat.le_of_ble_eq_true rfl) ?_
  intro p e s m below meth c ls hx hb hml hown hts hr hlk hnm hK hs0 hl Q hQ
  have hl : lv_has ls 1 [(0, .int v)] := hl
  have hC : CallFix p m c cX4_isTime 1 s [.int v].toArray wsX4_isTime RX4 := ⟨hx, hb, hml, hown, hts⟩
  have k_c29 := hts (.constant RX4 29 (1000000)) (by decide +kernel)
  refine lv_iload_n hx hb dX4_isTime_0 rfl (lv_at hl 0 rfl) ?_
  refine lv_iconst (v := nI 0) hx hb dX4_isTime_1 (by decide +kernel) ?_
  refine lv_ldc (v := nI 1000000) hx hb hown k_c29 dX4_isTime_2 ?_
  refine x_rd (va_runS (As := [.int v, .int (nI 0), .int (nI 1000000)]) (rest := []) hC (c_X4_isIn) (cwS 3 hts gX4_isTime_X4_isIn rfl rfl rfl qdX4_isIn ⟨Nat.le_of_ble_eq_true rfl, Nat.le_of_ble_eq_true rfl⟩) (x_preS hK) rfl rfl hl.1 rfl (lv_room (Nat.le_of_ble_eq_true rfl)) dX4_isTime_4 ⟨Nat.le_of_ble_eq_true rfl, Nat.le_of_ble_eq_true rfl⟩) ?_
  exact x_rdi hQ hx hb hr (nbI _) hlk (rfl) dX4_isTime_7
abbrev rmX4_isStation : Room := { frames := 1, cells := 0, slots := 0, locals := 22 }
theorem qdX4_isStation : yX4_isStation.cls = RX4 ∧ yX4_isStation.cls ≠ "java/lang/invoke/MethodHandle" ∧ yX4_isStation.cls ≠ "java/lang/invoke/VarHandle" ∧ (parseMethodDescriptor yX4_isStation.desc).map (fun d => d.parameters.length) = some 1 := by decide +kernel
set_option maxHeartbeats 4000000 in
set_option maxRecDepth 100000 in
theorem c_X4_isStation {l : Launch} {G : gT} {b : Nat → Nat} {mi : Nat → Int32} {ma : Nat → Nat → Int32} {H : Heap} {n : Nat} {v : Int32} (hP : mP G b mi ma H) (hmn : mi 1 = nI n) : Rd G l yX4_isStation wsX4_isStation rmX4_isStation [.ref (b 0), .int v] H (.int (bI (vS n v))) := by
  refine x_head (bytes := cX4_isStation) (maxL := 2) (ret := (some .boolean)) (by decide) rfl (Nat.le_of_ble_eq_true rfl) ?_
  intro p e s m below meth c ls hx hb hml hown hts hr hlk hnm hK hs0 hl Q hQ
  have hl : lv_has ls 2 [(0, .ref (b 0)), (1, .int v)] := hl
  have hC : CallFix p m c cX4_isStation 2 s [.ref (b 0), .int v].toArray wsX4_isStation RX4 := ⟨hx, hb, hml, hown, hts⟩
  have k_f34 := hts (.fieldLink RX4 34 "SundogLineModel" "stations" "I") (by decide +kernel)
  have in_X4 : ∀ w ∈ u_ws RX4 TX4 11, w ∈ wsX4_isStation := by decide +kernel
  refine lv_iload_n hx hb dX4_isStation_0 rfl (lv_at hl 1 rfl) ?_
  refine lv_iconst (v := nI 0) hx hb dX4_isStation_1 (by decide +kernel) ?_
  refine lv_aload_n hx hb dX4_isStation_2 rfl (lv_at hl 0 rfl) ?_
  refine x_get (T := TX4) (N := 11) (v := .int (nI n)) hx hb hts in_X4 hown hK (hP 0 _ rfl) rfl 1 (by decide) k_f34 (fun _ h9 => h9) (congrArg (fun z => some (Value.int z)) hmn) dX4_isStation_3 ?_
  refine lv_iconst (v := nI 1) hx hb dX4_isStation_6 (by decide +kernel) ?_
  refine lv_isub hx hb dX4_isStation_7 ?_
  refine x_rd (va_runS (As := [.int v, .int (nI 0), .int ((nI n) - (nI 1))]) (rest := []) hC (c_X4_isIn) (cwS 3 hts gX4_isStation_X4_isIn rfl rfl rfl qdX4_isIn ⟨Nat.le_of_ble_eq_true rfl, Nat.le_of_ble_eq_true rfl⟩) (x_preS hK) rfl rfl hl.1 rfl (lv_room (Nat.le_of_ble_eq_true rfl)) dX4_isStation_8 ⟨Nat.le_of_ble_eq_true rfl, Nat.le_of_ble_eq_true rfl⟩) ?_
  exact x_rdi hQ hx hb hr (nbI _) hlk (rfl) dX4_isStation_11
abbrev rmX4_isHalo : Room := { frames := 1, cells := 0, slots := 0, locals := 22 }
theorem qdX4_isHalo : yX4_isHalo.cls = RX4 ∧ yX4_isHalo.cls ≠ "java/lang/invoke/MethodHandle" ∧ yX4_isHalo.cls ≠ "java/lang/invoke/VarHandle" ∧ (parseMethodDescriptor yX4_isHalo.desc).map (fun d => d.parameters.length) = some 1 := by decide +kernel
set_option maxHeartbeats 4000000 in
set_option maxRecDepth 100000 in
theorem c_X4_isHalo {l : Launch} {G : gT} {b : Nat → Nat} {mi : Nat → Int32} {ma : Nat → Nat → Int32} {H : Heap} {n : Nat} {v : Int32} (hP : mP G b mi ma H) (hmn : mi 2 = nI n) : Rd G l yX4_isHalo wsX4_isHalo rmX4_isHalo [.ref (b 0), .int v] H (.int (bI (vS n v))) := by
  refine x_head (bytes := cX4_isHalo) (maxL := 2) (ret := (some .boolean)) (by decide) rfl (Nat.le_of_ble_eq_true rfl) ?_
  intro p e s m below meth c ls hx hb hml hown hts hr hlk hnm hK hs0 hl Q hQ
  have hl : lv_has ls 2 [(0, .ref (b 0)), (1, .int v)] := hl
  have hC : CallFix p m c cX4_isHalo 2 s [.ref (b 0), .int v].toArray wsX4_isHalo RX4 := ⟨hx, hb, hml, hown, hts⟩
  have k_f37 := hts (.fieldLink RX4 37 "SundogLineModel" "halos" "I") (by decide +kernel)
  have in_X4 : ∀ w ∈ u_ws RX4 TX4 11, w ∈ wsX4_isHalo := by decide +kernel
  refine lv_iload_n hx hb dX4_isHalo_0 rfl (lv_at hl 1 rfl) ?_
  refine lv_iconst (v := nI 0) hx hb dX4_isHalo_1 (by decide +kernel) ?_
  refine lv_aload_n hx hb dX4_isHalo_2 rfl (lv_at hl 0 rfl) ?_
  refine x_get (T := TX4) (N := 11) (v := .int (nI n)) hx hb hts in_X4 hown hK (hP 0 _ rfl) rfl 3 (by decide) k_f37 (fun _ h9 => h9) (congrArg (fun z => some (Value.int z)) hmn) dX4_isHalo_3 ?_
  refine lv_iconst (v := nI 1) hx hb dX4_isHalo_6 (by decide +kernel) ?_
  refine lv_isub hx hb dX4_isHalo_7 ?_
  refine x_rd (va_runS (As := [.int v, .int (nI 0), .int ((nI n) - (nI 1))]) (rest := []) hC (c_X4_isIn) (cwS 3 hts gX4_isHalo_X4_isIn rfl rfl rfl qdX4_isIn ⟨Nat.le_of_ble_eq_true rfl, Nat.le_of_ble_eq_true rfl⟩) (x_preS hK) rfl rfl hl.1 rfl (lv_room (Nat.le_of_ble_eq_true rfl)) dX4_isHalo_8 ⟨Nat.le_of_ble_eq_true rfl, Nat.le_of_ble_eq_true rfl⟩) ?_
  exact x_rdi hQ hx hb hr (nbI _) hlk (rfl) dX4_isHalo_11
abbrev rmX4_get : Room := { frames := 0, cells := 0, slots := 0, locals := 0 }
theorem qdX4_get : yX4_get.cls = RX4 ∧ yX4_get.cls ≠ "java/lang/invoke/MethodHandle" ∧ yX4_get.cls ≠ "java/lang/invoke/VarHandle" ∧ (parseMethodDescriptor yX4_get.desc).map (fun d => d.parameters.length) = some 2 := by decide +kernel
set_option maxHeartbeats 4000000 in
set_option maxRecDepth 100000 in
theorem c_X4_get {l : Launch} {G : gT} {b : Nat → Nat} {mi : Nat → Int32} {ma : Nat → Nat → Int32} {H : Heap} {i k : Nat} (hP : mP G b mi ma H) (hi : i < 12) (hk : k < 13) : Rd G l yX4_get wsX4_get rmX4_get [.ref (b 0), .int (nI i), .int (nI k)] H (.int (gL (ma 0) i k)) := by
  refine x_head (bytes := cX4_get) (maxL := 3) (ret := (some .int)) (by decide) rfl (Nat.le_of_ble_eq_true rfl) ?_
  intro p e s m below meth c ls hx hb hml hown hts hr hlk hnm hK hs0 hl Q hQ
  have hl : lv_has ls 3 [(0, .ref (b 0)), (1, .int (nI i)), (2, .int (nI k))] := hl
  have hC : CallFix p m c cX4_get 3 s [.ref (b 0), .int (nI i), .int (nI k)].toArray wsX4_get RX4 := ⟨hx, hb, hml, hown, hts⟩
  have k_f9 := hts (.fieldLink RX4 9 "SundogLineModel" "line" "[I") (by decide +kernel)
  have in_X4 : ∀ w ∈ u_ws RX4 TX4 11, w ∈ wsX4_get := by decide +kernel
  refine lv_aload_n hx hb dX4_get_0 rfl (lv_at hl 0 rfl) ?_
  refine x_get (T := TX4) (N := 11) (v := .ref (b 1)) hx hb hts in_X4 hown hK (hP 0 _ rfl) rfl 2 (by decide) k_f9 (fun _ h9 => h9) (rfl) dX4_get_1 ?_
  refine lv_bipush (v := nI 13) hx hb dX4_get_4 (by decide +kernel) ?_
  refine lv_iload_n hx hb dX4_get_6 rfl (lv_at hl 1 rfl) ?_
  refine x_imulN hx hb dX4_get_7 ?_
  refine lv_iload_n hx hb dX4_get_8 rfl (lv_at hl 2 rfl) ?_
  refine x_iaddN hx hb dX4_get_9 ?_
  refine x_ialdN hx hb hK (hP 1 _ rfl) (by omega) (by decide) dX4_get_10 ?_
  exact x_rdi hQ hx hb hr rfl hlk (rfl) dX4_get_11
abbrev rmX4_ha : Room := { frames := 0, cells := 0, slots := 0, locals := 0 }
theorem qdX4_ha : yX4_ha.cls = RX4 ∧ yX4_ha.cls ≠ "java/lang/invoke/MethodHandle" ∧ yX4_ha.cls ≠ "java/lang/invoke/VarHandle" ∧ (parseMethodDescriptor yX4_ha.desc).map (fun d => d.parameters.length) = some 2 := by decide +kernel
set_option maxHeartbeats 4000000 in
set_option maxRecDepth 100000 in
theorem c_X4_ha {l : Launch} {G : gT} {b : Nat → Nat} {mi : Nat → Int32} {ma : Nat → Nat → Int32} {H : Heap} {i k : Nat} (hP : mP G b mi ma H) (hi : i < 16) (hk : k < 4) : Rd G l yX4_ha wsX4_ha rmX4_ha [.ref (b 0), .int (nI i), .int (nI k)] H (.int (gT' (ma 1) i k)) := by
  refine x_head (bytes := cX4_ha) (maxL := 3) (ret := (some .int)) (by decide) rfl (Nat.le_of_ble_eq_true rfl) ?_
  intro p e s m below meth c ls hx hb hml hown hts hr hlk hnm hK hs0 hl Q hQ
  have hl : lv_has ls 3 [(0, .ref (b 0)), (1, .int (nI i)), (2, .int (nI k))] := hl
  have hC : CallFix p m c cX4_ha 3 s [.ref (b 0), .int (nI i), .int (nI k)].toArray wsX4_ha RX4 := ⟨hx, hb, hml, hown, hts⟩
  have k_f13 := hts (.fieldLink RX4 13 "SundogLineModel" "table" "[I") (by decide +kernel)
  have in_X4 : ∀ w ∈ u_ws RX4 TX4 11, w ∈ wsX4_ha := by decide +kernel
  refine lv_aload_n hx hb dX4_ha_0 rfl (lv_at hl 0 rfl) ?_
  refine x_get (T := TX4) (N := 11) (v := .ref (b 2)) hx hb hts in_X4 hown hK (hP 0 _ rfl) rfl 4 (by decide) k_f13 (fun _ h9 => h9) (rfl) dX4_ha_1 ?_
  refine lv_iconst (v := nI 4) hx hb dX4_ha_4 (by decide +kernel) ?_
  refine lv_iload_n hx hb dX4_ha_5 rfl (lv_at hl 1 rfl) ?_
  refine x_imulN hx hb dX4_ha_6 ?_
  refine lv_iload_n hx hb dX4_ha_7 rfl (lv_at hl 2 rfl) ?_
  refine x_iaddN hx hb dX4_ha_8 ?_
  refine x_ialdN hx hb hK (hP 2 _ rfl) (by omega) (by decide) dX4_ha_9 ?_
  exact x_rdi hQ hx hb hr rfl hlk (rfl) dX4_ha_10
abbrev rmX4_clockOf : Room := { frames := 1, cells := 0, slots := 0, locals := 22 }
theorem qdX4_clockOf : yX4_clockOf.cls = RX4 ∧ yX4_clockOf.cls ≠ "java/lang/invoke/MethodHandle" ∧ yX4_clockOf.cls ≠ "java/lang/invoke/VarHandle" ∧ (parseMethodDescriptor yX4_clockOf.desc).map (fun d => d.parameters.length) = some 2 := by decide +kernel
set_option maxHeartbeats 4000000 in
set_option maxRecDepth 100000 in
theorem c_X4_clockOf {l : Launch} {G : gT} {b : Nat → Nat} {mi : Nat → Int32} {ma : Nat → Nat → Int32} {H : Heap} {i : Nat} {t : Int32} (hP : mP G b mi ma H) (hi : i < 12) : Rd G l yX4_clockOf wsX4_clockOf rmX4_clockOf [.ref (b 0), .int (nI i), .int t] H (.int (clk (ma 0) i t)) := by
  refine x_head (bytes := cX4_clockOf) (maxL := 3) (ret := (some .int)) (by decide) rfl (Nat.le_of_ble_eq_true rfl) ?_
  intro p e s m below meth c ls hx hb hml hown hts hr hlk hnm hK hs0 hl Q hQ
  have hl : lv_has ls 3 [(0, .ref (b 0)), (1, .int (nI i)), (2, .int t)] := hl
  have hC : CallFix p m c cX4_clockOf 3 s [.ref (b 0), .int (nI i), .int t].toArray wsX4_clockOf RX4 := ⟨hx, hb, hml, hown, hts⟩
  refine lv_iload_n hx hb dX4_clockOf_0 rfl (lv_at hl 2 rfl) ?_
  refine lv_aload_n hx hb dX4_clockOf_1 rfl (lv_at hl 0 rfl) ?_
  refine lv_iload_n hx hb dX4_clockOf_2 rfl (lv_at hl 1 rfl) ?_
  refine lv_iconst (v := nI 1) hx hb dX4_clockOf_3 (by decide +kernel) ?_
  refine x_rd (va_runV (As := [.int (nI i), .int (nI 1)]) (rest := [.int t]) hC (c_X4_get hP (by omega) (by omega)) (cwV 2 hts gX4_clockOf_X4_get rfl rfl rfl qdX4_get ⟨Nat.le_of_ble_eq_true rfl, Nat.le_of_ble_eq_true rfl⟩) (x_preV hK (x_recv hK (hP 0 _ rfl) rfl)) rfl rfl hl.1 rfl (lv_room (Nat.le_of_ble_eq_true rfl)) dX4_clockOf_4 ⟨Nat.le_of_ble_eq_true rfl, Nat.le_of_ble_eq_true rfl⟩) ?_
  refine lv_iadd hx hb dX4_clockOf_7 ?_
  refine lv_aload_n hx hb dX4_clockOf_8 rfl (lv_at hl 0 rfl) ?_
  refine lv_iload_n hx hb dX4_clockOf_9 rfl (lv_at hl 1 rfl) ?_
  refine lv_iconst (v := nI 2) hx hb dX4_clockOf_10 (by decide +kernel) ?_
  refine x_rd (va_runV (As := [.int (nI i), .int (nI 2)]) (rest := [.int (t + (gL (ma 0) i 1))]) hC (c_X4_get hP (by omega) (by omega)) (cwV 2 hts gX4_clockOf_X4_get rfl rfl rfl qdX4_get ⟨Nat.le_of_ble_eq_true rfl, Nat.le_of_ble_eq_true rfl⟩) (x_preV hK (x_recv hK (hP 0 _ rfl) rfl)) rfl rfl hl.1 rfl (lv_room (Nat.le_of_ble_eq_true rfl)) dX4_clockOf_11 ⟨Nat.le_of_ble_eq_true rfl, Nat.le_of_ble_eq_true rfl⟩) ?_
  refine lv_iload_n hx hb dX4_clockOf_14 rfl (lv_at hl 2 rfl) ?_
  refine lv_imul hx hb dX4_clockOf_15 ?_
  refine lv_sipush (v := nI 1000) hx hb dX4_clockOf_16 (by decide +kernel) ?_
  refine lv_idiv hx hb dX4_clockOf_19 (by decide) ?_
  refine lv_iadd hx hb dX4_clockOf_20 ?_
  refine lv_aload_n hx hb dX4_clockOf_21 rfl (lv_at hl 0 rfl) ?_
  refine lv_iload_n hx hb dX4_clockOf_22 rfl (lv_at hl 1 rfl) ?_
  refine lv_iconst (v := nI 3) hx hb dX4_clockOf_23 (by decide +kernel) ?_
  refine x_rd (va_runV (As := [.int (nI i), .int (nI 3)]) (rest := [.int ((t + (gL (ma 0) i 1)) + (((gL (ma 0) i 2) * t) / (nI 1000)))]) hC (c_X4_get hP (by omega) (by omega)) (cwV 2 hts gX4_clockOf_X4_get rfl rfl rfl qdX4_get ⟨Nat.le_of_ble_eq_true rfl, Nat.le_of_ble_eq_true rfl⟩) (x_preV hK (x_recv hK (hP 0 _ rfl) rfl)) rfl rfl hl.1 rfl (lv_room (Nat.le_of_ble_eq_true rfl)) dX4_clockOf_24 ⟨Nat.le_of_ble_eq_true rfl, Nat.le_of_ble_eq_true rfl⟩) ?_
  refine lv_isub hx hb dX4_clockOf_27 ?_
  exact x_rdi hQ hx hb hr rfl hlk (rfl) dX4_clockOf_28
abbrev rmX4_comesTo : Room := { frames := 1, cells := 0, slots := 0, locals := 22 }
theorem qdX4_comesTo : yX4_comesTo.cls = RX4 ∧ yX4_comesTo.cls ≠ "java/lang/invoke/MethodHandle" ∧ yX4_comesTo.cls ≠ "java/lang/invoke/VarHandle" ∧ (parseMethodDescriptor yX4_comesTo.desc).map (fun d => d.parameters.length) = some 2 := by decide +kernel
set_option maxHeartbeats 4000000 in
set_option maxRecDepth 100000 in
theorem c_X4_comesTo {l : Launch} {G : gT} {b : Nat → Nat} {mi : Nat → Int32} {ma : Nat → Nat → Int32} {H : Heap} {i j : Nat} (hP : mP G b mi ma H) (hi : i < 12) (hj : j < 16) (hsp : ¬ gT' (ma 1) j 2 = 0) : Rd G l yX4_comesTo wsX4_comesTo rmX4_comesTo [.ref (b 0), .int (nI j), .int (nI i)] H (.int (cto (ma 0) (ma 1) j i)) := by
  refine x_head (bytes := cX4_comesTo) (maxL := 4) (ret := (some .int)) (by decide) rfl (Nat.le_of_ble_eq_true rfl) ?_
  intro p e s m below meth c ls hx hb hml hown hts hr hlk hnm hK hs0 hl Q hQ
  have hl : lv_has ls 4 [(0, .ref (b 0)), (1, .int (nI j)), (2, .int (nI i))] := hl
  have hC : CallFix p m c cX4_comesTo 4 s [.ref (b 0), .int (nI j), .int (nI i)].toArray wsX4_comesTo RX4 := ⟨hx, hb, hml, hown, hts⟩
  have k_m83 := hts (.methodLink RX4 83 Lib.Math.abs.name) (by decide +kernel)
  have k_msabs := hts (.static Lib.Math.abs.name) (by decide +kernel)
  have k_mi := hts (.initialized "java/lang/Math") (by decide +kernel)
  have k_mcabs := hts (.code Lib.Math.abs.name Lib.Math.abs.code 1 (some .int)) (by decide +kernel)
  refine lv_aload_n hx hb dX4_comesTo_0 rfl (lv_at hl 0 rfl) ?_
  refine lv_iload_n hx hb dX4_comesTo_1 rfl (lv_at hl 2 rfl) ?_
  refine lv_iconst (v := nI 0) hx hb dX4_comesTo_2 (by decide +kernel) ?_
  refine x_rd (va_runV (As := [.int (nI i), .int (nI 0)]) (rest := []) hC (c_X4_get hP (by omega) (by omega)) (cwV 2 hts gX4_comesTo_X4_get rfl rfl rfl qdX4_get ⟨Nat.le_of_ble_eq_true rfl, Nat.le_of_ble_eq_true rfl⟩) (x_preV hK (x_recv hK (hP 0 _ rfl) rfl)) rfl rfl hl.1 rfl (lv_room (Nat.le_of_ble_eq_true rfl)) dX4_comesTo_3 ⟨Nat.le_of_ble_eq_true rfl, Nat.le_of_ble_eq_true rfl⟩) ?_
  refine lv_aload_n hx hb dX4_comesTo_6 rfl (lv_at hl 0 rfl) ?_
  refine lv_iload_n hx hb dX4_comesTo_7 rfl (lv_at hl 1 rfl) ?_
  refine lv_iconst (v := nI 1) hx hb dX4_comesTo_8 (by decide +kernel) ?_
  refine x_rd (va_runV (As := [.int (nI j), .int (nI 1)]) (rest := [.int (gL (ma 0) i 0)]) hC (c_X4_ha hP (by omega) (by omega)) (cwV 2 hts gX4_comesTo_X4_ha rfl rfl rfl qdX4_ha ⟨Nat.le_of_ble_eq_true rfl, Nat.le_of_ble_eq_true rfl⟩) (x_preV hK (x_recv hK (hP 0 _ rfl) rfl)) rfl rfl hl.1 rfl (lv_room (Nat.le_of_ble_eq_true rfl)) dX4_comesTo_9 ⟨Nat.le_of_ble_eq_true rfl, Nat.le_of_ble_eq_true rfl⟩) ?_
  refine lv_isub hx hb dX4_comesTo_12 ?_
  refine lv_istore_n (lv' := [(3, .int ((gL (ma 0) i 0) - (gT' (ma 1) j 1))), (0, .ref (b 0)), (1, .int (nI j)), (2, .int (nI i))]) hx hb dX4_comesTo_13 rfl hl (by decide) rfl (fun ls hl => ?_)
  refine lv_iload_n hx hb dX4_comesTo_14 rfl (lv_at hl 0 rfl) ?_
  refine lv_aload_n hx hb dX4_comesTo_15 rfl (lv_at hl 1 rfl) ?_
  refine lv_iload_n hx hb dX4_comesTo_16 rfl (lv_at hl 2 rfl) ?_
  refine lv_iconst (v := nI 3) hx hb dX4_comesTo_17 (by decide +kernel) ?_
  refine x_rd (va_runV (As := [.int (nI j), .int (nI 3)]) (rest := [.int ((gL (ma 0) i 0) - (gT' (ma 1) j 1))]) hC (c_X4_ha hP (by omega) (by omega)) (cwV 2 hts gX4_comesTo_X4_ha rfl rfl rfl qdX4_ha ⟨Nat.le_of_ble_eq_true rfl, Nat.le_of_ble_eq_true rfl⟩) (x_preV hK (x_recv hK (hP 0 _ rfl) rfl)) rfl rfl hl.1 rfl (lv_room (Nat.le_of_ble_eq_true rfl)) dX4_comesTo_18 ⟨Nat.le_of_ble_eq_true rfl, Nat.le_of_ble_eq_true rfl⟩) ?_
  refine lv_imul hx hb dX4_comesTo_21 ?_
  refine lv_if_ge (tgt := 27) hx hb dX4_comesTo_22 (by decide) (fun c_1 => ?_) (fun c_1 => ?_)
  · refine lv_aload_n hx hb dX4_comesTo_27 rfl (lv_at hl 1 rfl) ?_
    refine lv_iload_n hx hb dX4_comesTo_28 rfl (lv_at hl 2 rfl) ?_
    refine lv_iconst (v := nI 0) hx hb dX4_comesTo_29 (by decide +kernel) ?_
    refine x_rd (va_runV (As := [.int (nI j), .int (nI 0)]) (rest := []) hC (c_X4_ha hP (by omega) (by omega)) (cwV 2 hts gX4_comesTo_X4_ha rfl rfl rfl qdX4_ha ⟨Nat.le_of_ble_eq_true rfl, Nat.le_of_ble_eq_true rfl⟩) (x_preV hK (x_recv hK (hP 0 _ rfl) rfl)) rfl rfl hl.1 rfl (lv_room (Nat.le_of_ble_eq_true rfl)) dX4_comesTo_30 ⟨Nat.le_of_ble_eq_true rfl, Nat.le_of_ble_eq_true rfl⟩) ?_
    refine lv_bipush (v := nI 100) hx hb dX4_comesTo_33 (by decide +kernel) ?_
    refine lv_iload_n hx hb dX4_comesTo_35 rfl (lv_at hl 0 rfl) ?_
    refine va_mabs hx hb (hml.trans hl.1.symm) hown k_m83 k_msabs k_mi k_mcabs (by decide) (Nat.le_of_ble_eq_true rfl) (Nat.zero_le _) (Nat.zero_le _) dX4_comesTo_36 ?_
    refine W.eq (g2 := F0 m 39 ls [.int (ab ((gL (ma 0) i 0) - (gT' (ma 1) j 1))), .int (nI 100), .int (gT' (ma 1) j 0)]) rfl ?_
    refine lv_imul hx hb dX4_comesTo_39 ?_
    refine lv_aload_n hx hb dX4_comesTo_40 rfl (lv_at hl 1 rfl) ?_
    refine lv_iload_n hx hb dX4_comesTo_41 rfl (lv_at hl 2 rfl) ?_
    refine lv_iconst (v := nI 2) hx hb dX4_comesTo_42 (by decide +kernel) ?_
    refine x_rd (va_runV (As := [.int (nI j), .int (nI 2)]) (rest := [.int ((nI 100) * (ab ((gL (ma 0) i 0) - (gT' (ma 1) j 1)))), .int (gT' (ma 1) j 0)]) hC (c_X4_ha hP (by omega) (by omega)) (cwV 2 hts gX4_comesTo_X4_ha rfl rfl rfl qdX4_ha ⟨Nat.le_of_ble_eq_true rfl, Nat.le_of_ble_eq_true rfl⟩) (x_preV hK (x_recv hK (hP 0 _ rfl) rfl)) rfl rfl hl.1 rfl (lv_room (Nat.le_of_ble_eq_true rfl)) dX4_comesTo_43 ⟨Nat.le_of_ble_eq_true rfl, Nat.le_of_ble_eq_true rfl⟩) ?_
    refine lv_iadd hx hb dX4_comesTo_46 ?_
    refine lv_iconst (v := nI 1) hx hb dX4_comesTo_47 (by decide +kernel) ?_
    refine lv_isub hx hb dX4_comesTo_48 ?_
    refine lv_aload_n hx hb dX4_comesTo_49 rfl (lv_at hl 1 rfl) ?_
    refine lv_iload_n hx hb dX4_comesTo_50 rfl (lv_at hl 2 rfl) ?_
    refine lv_iconst (v := nI 2) hx hb dX4_comesTo_51 (by decide +kernel) ?_
    refine x_rd (va_runV (As := [.int (nI j), .int (nI 2)]) (rest := [.int ((((nI 100) * (ab ((gL (ma 0) i 0) - (gT' (ma 1) j 1)))) + (gT' (ma 1) j 2)) - (nI 1)), .int (gT' (ma 1) j 0)]) hC (c_X4_ha hP (by omega) (by omega)) (cwV 2 hts gX4_comesTo_X4_ha rfl rfl rfl qdX4_ha ⟨Nat.le_of_ble_eq_true rfl, Nat.le_of_ble_eq_true rfl⟩) (x_preV hK (x_recv hK (hP 0 _ rfl) rfl)) rfl rfl hl.1 rfl (lv_room (Nat.le_of_ble_eq_true rfl)) dX4_comesTo_52 ⟨Nat.le_of_ble_eq_true rfl, Nat.le_of_ble_eq_true rfl⟩) ?_
    refine lv_idiv hx hb dX4_comesTo_55 (hsp) ?_
    refine lv_iadd hx hb dX4_comesTo_56 ?_
    exact x_rdi hQ hx hb hr rfl hlk (by simp only [cto]; rw [if_pos c_1]) dX4_comesTo_57
  · refine lv_iconst (v := (-1)) hx hb dX4_comesTo_25 (by decide +kernel) ?_
    exact x_rdi hQ hx hb hr rfl hlk (by simp only [cto]; rw [if_neg c_1]) dX4_comesTo_26
abbrev rmX4_sees : Room := { frames := 2, cells := 0, slots := 0, locals := 45 }
theorem qdX4_sees : yX4_sees.cls = RX4 ∧ yX4_sees.cls ≠ "java/lang/invoke/MethodHandle" ∧ yX4_sees.cls ≠ "java/lang/invoke/VarHandle" ∧ (parseMethodDescriptor yX4_sees.desc).map (fun d => d.parameters.length) = some 2 := by decide +kernel
set_option maxHeartbeats 4000000 in
set_option maxRecDepth 100000 in
theorem c_X4_sees {l : Launch} {G : gT} {b : Nat → Nat} {mi : Nat → Int32} {ma : Nat → Nat → Int32} {H : Heap} {n hn : Nat} {i j : Nat} (hP : mP G b mi ma H) (hg : OK n hn (ma 0) (ma 1)) (hi : i < n) (hj : j < hn) : Rd G l yX4_sees wsX4_sees rmX4_sees [.ref (b 0), .int (nI j), .int (nI i)] H (.int (bI (see (ma 0) (ma 1) j i))) := by
  refine x_head (bytes := cX4_sees) (maxL := 6) (ret := (some .boolean)) (by decide) rfl (Nat.le_of_ble_eq_true rfl) ?_
  intro p e s m below meth c ls hx hb hml hown hts hr hlk hnm hK hs0 hl Q hQ
  have hl : lv_has ls 6 [(0, .ref (b 0)), (1, .int (nI j)), (2, .int (nI i))] := hl
  have hC : CallFix p m c cX4_sees 6 s [.ref (b 0), .int (nI j), .int (nI i)].toArray wsX4_sees RX4 := ⟨hx, hb, hml, hown, hts⟩
  have hsp := hg.sp hj
  have hc := hg.c hi
  have hc4 := hg.c4 hi
  have hn12 := hg.n
  have hh16 := hg.hn
  refine lv_aload_n hx hb dX4_sees_0 rfl (lv_at hl 0 rfl) ?_
  refine lv_iload_n hx hb dX4_sees_1 rfl (lv_at hl 1 rfl) ?_
  refine lv_iload_n hx hb dX4_sees_2 rfl (lv_at hl 2 rfl) ?_
  refine x_rd (va_runV (As := [.int (nI j), .int (nI i)]) (rest := []) hC (c_X4_comesTo hP (by omega) (by omega) hsp) (cwV 2 hts gX4_sees_X4_comesTo rfl rfl rfl qdX4_comesTo ⟨Nat.le_of_ble_eq_true rfl, Nat.le_of_ble_eq_true rfl⟩) (x_preV hK (x_recv hK (hP 0 _ rfl) rfl)) rfl rfl hl.1 rfl (lv_room (Nat.le_of_ble_eq_true rfl)) dX4_sees_3 ⟨Nat.le_of_ble_eq_true rfl, Nat.le_of_ble_eq_true rfl⟩) ?_
  refine lv_istore_n (lv' := [(3, .int (cto (ma 0) (ma 1) j i)), (0, .ref (b 0)), (1, .int (nI j)), (2, .int (nI i))]) hx hb dX4_sees_6 rfl hl (by decide) rfl (fun ls hl => ?_)
  have j_1 : W p l e rmX4_sees s m [.ref (b 0), .int (nI j), .int (nI i)].toArray below meth c H [] 0 0 Q (F0 m 17 ls [.int (bI (!decide (cto (ma 0) (ma 1) j i = (-1))))]) := by
    refine lv_istore (lv' := [(4, .int (bI (!decide (cto (ma 0) (ma 1) j i = (-1))))), (3, .int (cto (ma 0) (ma 1) j i)), (0, .ref (b 0)), (1, .int (nI j)), (2, .int (nI i))]) hx hb dX4_sees_17 hl (by decide) rfl (fun ls hl => ?_)
    refine lv_iconst (v := nI 0) hx hb dX4_sees_19 (by decide +kernel) ?_
    refine lv_istore (lv' := [(5, .int (nI 0)), (4, .int (bI (!decide (cto (ma 0) (ma 1) j i = (-1))))), (3, .int (cto (ma 0) (ma 1) j i)), (0, .ref (b 0)), (1, .int (nI j)), (2, .int (nI i))]) hx hb dX4_sees_20 hl (by decide) rfl (fun ls hl => ?_)
    have loop_2 : ∀ (fu : Nat) (k : Nat) (B : Bool)  (ls : Array Slot), nc (ma 0) i - k < fu → (k ≤ nc (ma 0) i) → (B = (!decide (cto (ma 0) (ma 1) j i = (-1)) && clr (ma 0) i (cto (ma 0) (ma 1) j i) k)) → lv_has ls 6 [(0, .ref (b 0)), (1, .int (nI j)), (2, .int (nI i)), (3, .int (cto (ma 0) (ma 1) j i)), (4, .int (bI B)), (5, .int (nI k))] → W p l e rmX4_sees s m [.ref (b 0), .int (nI j), .int (nI i)].toArray below meth c H [] 0 0 Q (F0 m 22 ls []) := by
      intro fu
      induction fu with
      | zero => intro k B ls hms hk hB hl; exact absurd hms (Nat.not_lt_zero _)
      | succ fu ih_2 =>
        intro k B ls hms hk hB hl
        refine lv_iload hx hb dX4_sees_22 (lv_at hl 5 rfl) ?_
        refine lv_aload_n hx hb dX4_sees_24 rfl (lv_at hl 0 rfl) ?_
        refine lv_iload_n hx hb dX4_sees_25 rfl (lv_at hl 2 rfl) ?_
        refine lv_iconst (v := nI 4) hx hb dX4_sees_26 (by decide +kernel) ?_
        refine x_rd (va_runV (As := [.int (nI i), .int (nI 4)]) (rest := [.int (nI k)]) hC (c_X4_get hP (by omega) (by omega)) (cwV 2 hts gX4_sees_X4_get rfl rfl rfl qdX4_get ⟨Nat.le_of_ble_eq_true rfl, Nat.le_of_ble_eq_true rfl⟩) (x_preV hK (x_recv hK (hP 0 _ rfl) rfl)) rfl rfl hl.1 rfl (lv_room (Nat.le_of_ble_eq_true rfl)) dX4_sees_27 ⟨Nat.le_of_ble_eq_true rfl, Nat.le_of_ble_eq_true rfl⟩) ?_
        refine W.eq (g2 := F0 m 30 ls [.int (nI (nc (ma 0) i)), .int (nI k)]) (congrArg (fun z => F0 m 30 ls (.int z :: [.int (nI k)])) (hc)) ?_
        refine x_icmp_ge (tgt := 84) hx hb (by omega) (by omega) dX4_sees_30 (by decide) (fun c_3 => ?_) (fun c_3 => ?_)
        · refine lv_iload hx hb dX4_sees_84 (lv_at hl 4 rfl) ?_
          exact x_rdi hQ hx hb hr (nbI _) hlk (by have e : k = nc (ma 0) i := (by omega); subst e; rw [hB]; rfl) dX4_sees_86
        · have j_4 : W p l e rmX4_sees s m [.ref (b 0), .int (nI j), .int (nI i)].toArray below meth c H [] 0 0 Q (F0 m 76 ls [.int (bI (B && !inR (gL (ma 0) i (5 + 2 * k)) (gL (ma 0) i (5 + 2 * k + 1) - nI 1) (cto (ma 0) (ma 1) j i)))]) := by
            refine lv_istore (lv' := [(4, .int (bI (B && !inR (gL (ma 0) i (5 + 2 * k)) (gL (ma 0) i (5 + 2 * k + 1) - nI 1) (cto (ma 0) (ma 1) j i)))), (0, .ref (b 0)), (1, .int (nI j)), (2, .int (nI i)), (3, .int (cto (ma 0) (ma 1) j i)), (5, .int (nI k))]) hx hb dX4_sees_76 hl (by decide) rfl (fun ls hl => ?_)
            refine lv_iinc (v := nI (k + 1)) (lv' := [(5, .int (nI (k + 1))), (4, .int (bI (B && !inR (gL (ma 0) i (5 + 2 * k)) (gL (ma 0) i (5 + 2 * k + 1) - nI 1) (cto (ma 0) (ma 1) j i)))), (0, .ref (b 0)), (1, .int (nI j)), (2, .int (nI i)), (3, .int (cto (ma 0) (ma 1) j i))]) hx hb dX4_sees_78 hl (k := 5) rfl (nI_incn _) (by decide) rfl (fun ls hl => ?_)
            refine lv_goto (tgt := 22) hx hb dX4_sees_81 (by decide) ?_
            exact ih_2 (k + 1) (B && !inR (gL (ma 0) i (5 + 2 * k)) (gL (ma 0) i (5 + 2 * k + 1) - nI 1) (cto (ma 0) (ma 1) j i)) ls (by omega) (by omega) (by rw [hB]; simp only [clr, Bool.and_assoc]) (lv_sub hl [2, 3, 4, 5, 1, 0] rfl)
          refine lv_iload hx hb dX4_sees_33 (lv_at hl 4 rfl) ?_
          refine x_if_eqB (tgt := 75) hx hb dX4_sees_35 (by decide) (fun c_5 => ?_) (fun c_5 => ?_)
          · refine lv_iconst (v := nI 0) hx hb dX4_sees_75 (by decide +kernel) ?_
            exact W.eq (g2 := F0 m 76 ls [.int (bI (B && !inR (gL (ma 0) i (5 + 2 * k)) (gL (ma 0) i (5 + 2 * k + 1) - nI 1) (cto (ma 0) (ma 1) j i)))]) (congrArg (fun z => F0 m 76 ls (.int z :: [])) (bI_z (by rw [c_5]; rfl))) j_4
          · refine lv_iload_n hx hb dX4_sees_38 rfl (lv_at hl 3 rfl) ?_
            refine lv_aload_n hx hb dX4_sees_39 rfl (lv_at hl 0 rfl) ?_
            refine lv_iload_n hx hb dX4_sees_40 rfl (lv_at hl 2 rfl) ?_
            refine lv_iconst (v := nI 5) hx hb dX4_sees_41 (by decide +kernel) ?_
            refine lv_iconst (v := nI 2) hx hb dX4_sees_42 (by decide +kernel) ?_
            refine lv_iload hx hb dX4_sees_43 (lv_at hl 5 rfl) ?_
            refine x_imulN hx hb dX4_sees_45 ?_
            refine x_iaddN hx hb dX4_sees_46 ?_
            refine x_rd (va_runV (As := [.int (nI i), .int (nI (5 + (2 * k)))]) (rest := [.int (cto (ma 0) (ma 1) j i)]) hC (c_X4_get hP (by omega) (by omega)) (cwV 2 hts gX4_sees_X4_get rfl rfl rfl qdX4_get ⟨Nat.le_of_ble_eq_true rfl, Nat.le_of_ble_eq_true rfl⟩) (x_preV hK (x_recv hK (hP 0 _ rfl) rfl)) rfl rfl hl.1 rfl (lv_room (Nat.le_of_ble_eq_true rfl)) dX4_sees_47 ⟨Nat.le_of_ble_eq_true rfl, Nat.le_of_ble_eq_true rfl⟩) ?_
            refine lv_aload_n hx hb dX4_sees_50 rfl (lv_at hl 0 rfl) ?_
            refine lv_iload_n hx hb dX4_sees_51 rfl (lv_at hl 2 rfl) ?_
            refine lv_iconst (v := nI 5) hx hb dX4_sees_52 (by decide +kernel) ?_
            refine lv_iconst (v := nI 2) hx hb dX4_sees_53 (by decide +kernel) ?_
            refine lv_iload hx hb dX4_sees_54 (lv_at hl 5 rfl) ?_
            refine x_imulN hx hb dX4_sees_56 ?_
            refine x_iaddN hx hb dX4_sees_57 ?_
            refine lv_iconst (v := nI 1) hx hb dX4_sees_58 (by decide +kernel) ?_
            refine x_iaddN hx hb dX4_sees_59 ?_
            refine x_rd (va_runV (As := [.int (nI i), .int (nI ((5 + (2 * k)) + 1))]) (rest := [.int (gL (ma 0) i (5 + (2 * k))), .int (cto (ma 0) (ma 1) j i)]) hC (c_X4_get hP (by omega) (by omega)) (cwV 2 hts gX4_sees_X4_get rfl rfl rfl qdX4_get ⟨Nat.le_of_ble_eq_true rfl, Nat.le_of_ble_eq_true rfl⟩) (x_preV hK (x_recv hK (hP 0 _ rfl) rfl)) rfl rfl hl.1 rfl (lv_room (Nat.le_of_ble_eq_true rfl)) dX4_sees_60 ⟨Nat.le_of_ble_eq_true rfl, Nat.le_of_ble_eq_true rfl⟩) ?_
            refine lv_iconst (v := nI 1) hx hb dX4_sees_63 (by decide +kernel) ?_
            refine lv_isub hx hb dX4_sees_64 ?_
            refine x_rd (va_runS (As := [.int (cto (ma 0) (ma 1) j i), .int (gL (ma 0) i (5 + (2 * k))), .int ((gL (ma 0) i ((5 + (2 * k)) + 1)) - (nI 1))]) (rest := []) hC (c_X4_isIn) (cwS 3 hts gX4_sees_X4_isIn rfl rfl rfl qdX4_isIn ⟨Nat.le_of_ble_eq_true rfl, Nat.le_of_ble_eq_true rfl⟩) (x_preS hK) rfl rfl hl.1 rfl (lv_room (Nat.le_of_ble_eq_true rfl)) dX4_sees_65 ⟨Nat.le_of_ble_eq_true rfl, Nat.le_of_ble_eq_true rfl⟩) ?_
            refine x_if_neB (tgt := 75) hx hb dX4_sees_68 (by decide) (fun c_6 => ?_) (fun c_6 => ?_)
            · refine lv_iconst (v := nI 0) hx hb dX4_sees_75 (by decide +kernel) ?_
              exact W.eq (g2 := F0 m 76 ls [.int (bI (B && !inR (gL (ma 0) i (5 + 2 * k)) (gL (ma 0) i (5 + 2 * k + 1) - nI 1) (cto (ma 0) (ma 1) j i)))]) (congrArg (fun z => F0 m 76 ls (.int z :: [])) (bI_z (by rw [c_5, c_6]; rfl))) j_4
            · refine lv_iconst (v := nI 1) hx hb dX4_sees_71 (by decide +kernel) ?_
              refine lv_goto (tgt := 76) hx hb dX4_sees_72 (by decide) ?_
              exact W.eq (g2 := F0 m 76 ls [.int (bI (B && !inR (gL (ma 0) i (5 + 2 * k)) (gL (ma 0) i (5 + 2 * k + 1) - nI 1) (cto (ma 0) (ma 1) j i)))]) (congrArg (fun z => F0 m 76 ls (.int z :: [])) (bI_o (by rw [c_5, c_6]; rfl))) j_4
    exact loop_2 _ 0 (!decide (cto (ma 0) (ma 1) j i = (-1))) ls (Nat.lt_succ_self _) (Nat.zero_le _) (by simp [clr]) (lv_sub hl [3, 4, 5, 2, 1, 0] rfl)
  refine lv_iload_n hx hb dX4_sees_7 rfl (lv_at hl 0 rfl) ?_
  refine lv_iconst (v := (-1)) hx hb dX4_sees_8 (by decide +kernel) ?_
  refine lv_icmp_eq (tgt := 16) hx hb dX4_sees_9 (by decide) (fun c_7 => ?_) (fun c_7 => ?_)
  · refine lv_iconst (v := nI 0) hx hb dX4_sees_16 (by decide +kernel) ?_
    exact W.eq (g2 := F0 m 17 ls [.int (bI (!decide (cto (ma 0) (ma 1) j i = (-1))))]) (congrArg (fun z => F0 m 17 ls (.int z :: [])) (bI_z (by simp [c_7]))) j_1
  · refine lv_iconst (v := nI 1) hx hb dX4_sees_12 (by decide +kernel) ?_
    refine lv_goto (tgt := 17) hx hb dX4_sees_13 (by decide) ?_
    exact W.eq (g2 := F0 m 17 ls [.int (bI (!decide (cto (ma 0) (ma 1) j i = (-1))))]) (congrArg (fun z => F0 m 17 ls (.int z :: [])) (bI_o (by simp [c_7]))) j_1
abbrev rmX4_readingOf : Room := { frames := 3, cells := 0, slots := 0, locals := 70 }
theorem qdX4_readingOf : yX4_readingOf.cls = RX4 ∧ yX4_readingOf.cls ≠ "java/lang/invoke/MethodHandle" ∧ yX4_readingOf.cls ≠ "java/lang/invoke/VarHandle" ∧ (parseMethodDescriptor yX4_readingOf.desc).map (fun d => d.parameters.length) = some 2 := by decide +kernel
set_option maxHeartbeats 4000000 in
set_option maxRecDepth 100000 in
theorem c_X4_readingOf {l : Launch} {G : gT} {b : Nat → Nat} {mi : Nat → Int32} {ma : Nat → Nat → Int32} {H : Heap} {n hn : Nat} {i j : Nat} (hP : mP G b mi ma H) (hg : OK n hn (ma 0) (ma 1)) (hi : i < n) (hj : j < hn) : Rd G l yX4_readingOf wsX4_readingOf rmX4_readingOf [.ref (b 0), .int (nI j), .int (nI i)] H (.int (rdg (ma 0) (ma 1) j i)) := by
  refine x_head (bytes := cX4_readingOf) (maxL := 3) (ret := (some .int)) (by decide) rfl (Nat.le_of_ble_eq_true rfl) ?_
  intro p e s m below meth c ls hx hb hml hown hts hr hlk hnm hK hs0 hl Q hQ
  have hl : lv_has ls 3 [(0, .ref (b 0)), (1, .int (nI j)), (2, .int (nI i))] := hl
  have hC : CallFix p m c cX4_readingOf 3 s [.ref (b 0), .int (nI j), .int (nI i)].toArray wsX4_readingOf RX4 := ⟨hx, hb, hml, hown, hts⟩
  have k_c91 := hts (.constant RX4 91 (-1000000)) (by decide +kernel)
  have hsp := hg.sp hj
  have hc := hg.c hi
  have hc4 := hg.c4 hi
  have hn12 := hg.n
  have hh16 := hg.hn
  refine lv_aload_n hx hb dX4_readingOf_0 rfl (lv_at hl 0 rfl) ?_
  refine lv_iload_n hx hb dX4_readingOf_1 rfl (lv_at hl 1 rfl) ?_
  refine lv_iload_n hx hb dX4_readingOf_2 rfl (lv_at hl 2 rfl) ?_
  refine x_rd (va_runV (As := [.int (nI j), .int (nI i)]) (rest := []) hC (c_X4_sees hP hg (by omega) (by omega)) (cwV 2 hts gX4_readingOf_X4_sees rfl rfl rfl qdX4_sees ⟨Nat.le_of_ble_eq_true rfl, Nat.le_of_ble_eq_true rfl⟩) (x_preV hK (x_recv hK (hP 0 _ rfl) rfl)) rfl rfl hl.1 rfl (lv_room (Nat.le_of_ble_eq_true rfl)) dX4_readingOf_3 ⟨Nat.le_of_ble_eq_true rfl, Nat.le_of_ble_eq_true rfl⟩) ?_
  refine x_if_eqB (tgt := 23) hx hb dX4_readingOf_6 (by decide) (fun c_1 => ?_) (fun c_1 => ?_)
  · refine lv_ldc (v := (-1000000)) hx hb hown k_c91 dX4_readingOf_23 ?_
    exact x_rdi hQ hx hb hr rfl hlk (by simp only [rdg]; rw [if_neg (by rw [c_1]; decide)]) dX4_readingOf_25
  · refine lv_aload_n hx hb dX4_readingOf_9 rfl (lv_at hl 0 rfl) ?_
    refine lv_iload_n hx hb dX4_readingOf_10 rfl (lv_at hl 2 rfl) ?_
    refine lv_aload_n hx hb dX4_readingOf_11 rfl (lv_at hl 0 rfl) ?_
    refine lv_iload_n hx hb dX4_readingOf_12 rfl (lv_at hl 1 rfl) ?_
    refine lv_iload_n hx hb dX4_readingOf_13 rfl (lv_at hl 2 rfl) ?_
    refine x_rd (va_runV (As := [.int (nI j), .int (nI i)]) (rest := [.int (nI i), .ref (b 0)]) hC (c_X4_comesTo hP (by omega) (by omega) hsp) (cwV 2 hts gX4_readingOf_X4_comesTo rfl rfl rfl qdX4_comesTo ⟨Nat.le_of_ble_eq_true rfl, Nat.le_of_ble_eq_true rfl⟩) (x_preV hK (x_recv hK (hP 0 _ rfl) rfl)) rfl rfl hl.1 rfl (lv_room (Nat.le_of_ble_eq_true rfl)) dX4_readingOf_14 ⟨Nat.le_of_ble_eq_true rfl, Nat.le_of_ble_eq_true rfl⟩) ?_
    refine x_rd (va_runV (As := [.int (nI i), .int (cto (ma 0) (ma 1) j i)]) (rest := []) hC (c_X4_clockOf hP (by omega)) (cwV 2 hts gX4_readingOf_X4_clockOf rfl rfl rfl qdX4_clockOf ⟨Nat.le_of_ble_eq_true rfl, Nat.le_of_ble_eq_true rfl⟩) (x_preV hK (x_recv hK (hP 0 _ rfl) rfl)) rfl rfl hl.1 rfl (lv_room (Nat.le_of_ble_eq_true rfl)) dX4_readingOf_17 ⟨Nat.le_of_ble_eq_true rfl, Nat.le_of_ble_eq_true rfl⟩) ?_
    refine lv_goto (tgt := 25) hx hb dX4_readingOf_20 (by decide) ?_
    exact x_rdi hQ hx hb hr rfl hlk (by simp only [rdg]; rw [if_pos c_1]) dX4_readingOf_25
abbrev rmX4_sightings : Room := { frames := 3, cells := 0, slots := 0, locals := 70 }
theorem qdX4_sightings : yX4_sightings.cls = RX4 ∧ yX4_sightings.cls ≠ "java/lang/invoke/MethodHandle" ∧ yX4_sightings.cls ≠ "java/lang/invoke/VarHandle" ∧ (parseMethodDescriptor yX4_sightings.desc).map (fun d => d.parameters.length) = some 1 := by decide +kernel
set_option maxHeartbeats 4000000 in
set_option maxRecDepth 100000 in
theorem c_X4_sightings {l : Launch} {G : gT} {b : Nat → Nat} {mi : Nat → Int32} {ma : Nat → Nat → Int32} {H : Heap} {n hn : Nat} {i : Nat} (hP : mP G b mi ma H) (hg : OK n hn (ma 0) (ma 1)) (hi : i < n) (hmh : mi 2 = nI hn) : Rd G l yX4_sightings wsX4_sightings rmX4_sightings [.ref (b 0), .int (nI i)] H (.int (nI (cnt (fun j => see (ma 0) (ma 1) j i) hn))) := by
  refine x_head (bytes := cX4_sightings) (maxL := 4) (ret := (some .int)) (by decide) rfl (Nat.le_of_ble_eq_true rfl) ?_
  intro p e s m below meth c ls hx hb hml hown hts hr hlk hnm hK hs0 hl Q hQ
  have hl : lv_has ls 4 [(0, .ref (b 0)), (1, .int (nI i))] := hl
  have hC : CallFix p m c cX4_sightings 4 s [.ref (b 0), .int (nI i)].toArray wsX4_sightings RX4 := ⟨hx, hb, hml, hown, hts⟩
  have k_f37 := hts (.fieldLink RX4 37 "SundogLineModel" "halos" "I") (by decide +kernel)
  have in_X4 : ∀ w ∈ u_ws RX4 TX4 11, w ∈ wsX4_sightings := by decide +kernel
  have hn12 := hg.n
  have hh16 := hg.hn
  refine lv_iconst (v := nI 0) hx hb dX4_sightings_0 (by decide +kernel) ?_
  refine lv_istore_n (lv' := [(2, .int (nI 0)), (0, .ref (b 0)), (1, .int (nI i))]) hx hb dX4_sightings_1 rfl hl (by decide) rfl (fun ls hl => ?_)
  refine lv_iconst (v := nI 0) hx hb dX4_sightings_2 (by decide +kernel) ?_
  refine lv_istore_n (lv' := [(3, .int (nI 0)), (2, .int (nI 0)), (0, .ref (b 0)), (1, .int (nI i))]) hx hb dX4_sightings_3 rfl hl (by decide) rfl (fun ls hl => ?_)
  have loop_1 : ∀ (fu : Nat) (j : Nat)  (ls : Array Slot), hn - j < fu → (j ≤ hn) → lv_has ls 4 [(0, .ref (b 0)), (1, .int (nI i)), (2, .int (nI (cnt (fun j => see (ma 0) (ma 1) j i) j))), (3, .int (nI j))] → W p l e rmX4_sightings s m [.ref (b 0), .int (nI i)].toArray below meth c H [] 0 0 Q (F0 m 4 ls []) := by
    intro fu
    induction fu with
    | zero => intro j ls hms hj hl; exact absurd hms (Nat.not_lt_zero _)
    | succ fu ih_1 =>
      intro j ls hms hj hl
      refine lv_iload_n hx hb dX4_sightings_4 rfl (lv_at hl 3 rfl) ?_
      refine lv_aload_n hx hb dX4_sightings_5 rfl (lv_at hl 0 rfl) ?_
      refine x_get (T := TX4) (N := 11) (v := .int (nI hn)) hx hb hts in_X4 hown hK (hP 0 _ rfl) rfl 3 (by decide) k_f37 (fun _ h9 => h9) (congrArg (fun z => some (Value.int z)) hmh) dX4_sightings_6 ?_
      refine x_icmp_ge (tgt := 35) hx hb (by omega) (by omega) dX4_sightings_9 (by decide) (fun c_2 => ?_) (fun c_2 => ?_)
      · refine lv_iload_n hx hb dX4_sightings_35 rfl (lv_at hl 2 rfl) ?_
        exact x_rdi hQ hx hb hr rfl hlk (by have e : j = hn := (by omega); subst e; rfl) dX4_sightings_36
      · refine lv_iload_n hx hb dX4_sightings_12 rfl (lv_at hl 2 rfl) ?_
        have j_3 : W p l e rmX4_sightings s m [.ref (b 0), .int (nI i)].toArray below meth c H [] 0 0 Q (F0 m 27 ls [.int (nI ((see (ma 0) (ma 1) j i).toNat)), .int (nI (cnt (fun j => see (ma 0) (ma 1) j i) j))]) := by
          refine x_iaddN hx hb dX4_sightings_27 ?_
          refine lv_istore_n (lv' := [(2, .int (nI ((cnt (fun j => see (ma 0) (ma 1) j i) j) + ((see (ma 0) (ma 1) j i).toNat)))), (0, .ref (b 0)), (1, .int (nI i)), (3, .int (nI j))]) hx hb dX4_sightings_28 rfl hl (by decide) rfl (fun ls hl => ?_)
          refine lv_iinc (v := nI (j + 1)) (lv' := [(3, .int (nI (j + 1))), (2, .int (nI ((cnt (fun j => see (ma 0) (ma 1) j i) j) + ((see (ma 0) (ma 1) j i).toNat)))), (0, .ref (b 0)), (1, .int (nI i))]) hx hb dX4_sightings_29 hl (k := 3) rfl (nI_incn _) (by decide) rfl (fun ls hl => ?_)
          refine lv_goto (tgt := 4) hx hb dX4_sightings_32 (by decide) ?_
          exact ih_1 (j + 1) ls (by omega) (by omega) (lv_sub hl [2, 3, 1, 0] rfl)
        refine lv_aload_n hx hb dX4_sightings_13 rfl (lv_at hl 0 rfl) ?_
        refine lv_iload_n hx hb dX4_sightings_14 rfl (lv_at hl 3 rfl) ?_
        refine lv_iload_n hx hb dX4_sightings_15 rfl (lv_at hl 1 rfl) ?_
        refine x_rd (va_runV (As := [.int (nI j), .int (nI i)]) (rest := [.int (nI (cnt (fun j => see (ma 0) (ma 1) j i) j))]) hC (c_X4_sees hP hg (by omega) (by omega)) (cwV 2 hts gX4_sightings_X4_sees rfl rfl rfl qdX4_sees ⟨Nat.le_of_ble_eq_true rfl, Nat.le_of_ble_eq_true rfl⟩) (x_preV hK (x_recv hK (hP 0 _ rfl) rfl)) rfl rfl hl.1 rfl (lv_room (Nat.le_of_ble_eq_true rfl)) dX4_sightings_16 ⟨Nat.le_of_ble_eq_true rfl, Nat.le_of_ble_eq_true rfl⟩) ?_
        refine x_if_eqB (tgt := 26) hx hb dX4_sightings_19 (by decide) (fun c_4 => ?_) (fun c_4 => ?_)
        · refine lv_iconst (v := nI 0) hx hb dX4_sightings_26 (by decide +kernel) ?_
          exact W.eq (g2 := F0 m 27 ls [.int (nI ((see (ma 0) (ma 1) j i).toNat)), .int (nI (cnt (fun j => see (ma 0) (ma 1) j i) j))]) (congrArg (fun z => F0 m 27 ls (.int z :: [.int (nI (cnt (fun j => see (ma 0) (ma 1) j i) j))])) (congrArg nI (by rw [c_4]; rfl))) j_3
        · refine lv_iconst (v := nI 1) hx hb dX4_sightings_22 (by decide +kernel) ?_
          refine lv_goto (tgt := 27) hx hb dX4_sightings_23 (by decide) ?_
          exact W.eq (g2 := F0 m 27 ls [.int (nI ((see (ma 0) (ma 1) j i).toNat)), .int (nI (cnt (fun j => see (ma 0) (ma 1) j i) j))]) (congrArg (fun z => F0 m 27 ls (.int z :: [.int (nI (cnt (fun j => see (ma 0) (ma 1) j i) j))])) (congrArg nI (by rw [c_4]; rfl))) j_3
  exact loop_1 _ 0 ls (Nat.lt_succ_self _) (Nat.zero_le _) (lv_sub hl [2, 3, 1, 0] rfl)
