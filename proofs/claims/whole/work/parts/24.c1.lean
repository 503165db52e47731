abbrev rmJx4a65c_size_8abf5 : Room := { frames := 0, cells := 0, slots := 0, locals := 0 }
theorem qdJx4a65c_size_8abf5 : yJx4a65c_size_8abf5.cls = RJx4a65c ∧ yJx4a65c_size_8abf5.cls ≠ "java/lang/invoke/MethodHandle" ∧ yJx4a65c_size_8abf5.cls ≠ "java/lang/invoke/VarHandle" ∧ (parseMethodDescriptor yJx4a65c_size_8abf5.desc).map (fun d => d.parameters.length) = some 0 := by decide +kernel
set_option maxHeartbeats 4000000 in
set_option maxRecDepth 100000 in
theorem c_size0 {l : Launch} {G : gT} {H : Heap} {a ea n : Nat} {mc : Int32} (h1 : pt G a (alO mc ea n) H) : Rd G l yJx4a65c_size_8abf5 wsJx4a65c_size_8abf5 rmJx4a65c_size_8abf5 [.ref a] H (.int (nI n)) := by
  refine x_head (bytes := cJx4a65c_size_8abf5) (maxL := 1) (ret := (some .int)) (by decide) rfl (Nat.le_of_ble_eq_true rfl) ?_
  intro p e s m below meth c ls hx hb hml hown hts hr hlk hnm hK hs0 hl Q hQ
  have hl : lv_has ls 1 [(0, .ref a)] := hl
  have hC : CallFix p m c cJx4a65c_size_8abf5 1 s [.ref a].toArray wsJx4a65c_size_8abf5 RJx4a65c := ⟨hx, hb, hml, hown, hts⟩
  have k_f48 := hts (.fieldLink RJx4a65c 48 "java/util/ArrayList" "size" "I") (by decide +kernel)
  have in_Jx4a65c : ∀ w ∈ u_ws RJx4a65c TJx4a65c 3, w ∈ wsJx4a65c_size_8abf5 := by decide +kernel
  refine lv_aload_n hx hb dJx4a65c_size_8abf5_0 rfl (lv_at hl 0 rfl) ?_
  refine x_get (T := TJx4a65c) (N := 3) (v := .int (nI n)) hx hb hts in_Jx4a65c hown hK (h1) rfl 2 (by decide) k_f48 (fun _ h9 => h9) (rfl) dJx4a65c_size_8abf5_1 ?_
  exact x_rdi hQ hx hb hr rfl hlk (rfl) dJx4a65c_size_8abf5_4
abbrev rmJx4a65c_isEmpty_aae02 : Room := { frames := 0, cells := 0, slots := 0, locals := 0 }
theorem qdJx4a65c_isEmpty_aae02 : yJx4a65c_isEmpty_aae02.cls = RJx4a65c ∧ yJx4a65c_isEmpty_aae02.cls ≠ "java/lang/invoke/MethodHandle" ∧ yJx4a65c_isEmpty_aae02.cls ≠ "java/lang/invoke/VarHandle" ∧ (parseMethodDescriptor yJx4a65c_isEmpty_aae02.desc).map (fun d => d.parameters.length) = some 0 := by decide +kernel
set_option maxHeartbeats 4000000 in
set_option maxRecDepth 100000 in
theorem c_isEmpty0 {l : Launch} {G : gT} {H : Heap} {a ea n : Nat} {mc : Int32} (h1 : pt G a (alO mc ea n) H) (hn : n < 2 ^ 31) : Rd G l yJx4a65c_isEmpty_aae02 wsJx4a65c_isEmpty_aae02 rmJx4a65c_isEmpty_aae02 [.ref a] H (.int (bI (decide (n = 0)))) := by
  refine x_head (bytes := cJx4a65c_isEmpty_aae02) (maxL := 1) (ret := (some .boolean)) (by decide) rfl (Nat.le_of_ble_eq_true rfl) ?_
  intro p e s m below meth c ls hx hb hml hown hts hr hlk hnm hK hs0 hl Q hQ
  have hl : lv_has ls 1 [(0, .ref a)] := hl
  have hC : CallFix p m c cJx4a65c_isEmpty_aae02 1 s [.ref a].toArray wsJx4a65c_isEmpty_aae02 RJx4a65c := ⟨hx, hb, hml, hown, hts⟩
  have k_f48 := hts (.fieldLink RJx4a65c 48 "java/util/ArrayList" "size" "I") (by decide +kernel)
  have in_Jx4a65c : ∀ w ∈ u_ws RJx4a65c TJx4a65c 3, w ∈ wsJx4a65c_isEmpty_aae02 := by decide +kernel
  refine lv_aload_n hx hb dJx4a65c_isEmpty_aae02_0 rfl (lv_at hl 0 rfl) ?_
  refine x_get (T := TJx4a65c) (N := 3) (v := .int (nI n)) hx hb hts in_Jx4a65c hown hK (h1) rfl 2 (by decide) k_f48 (fun _ h9 => h9) (rfl) dJx4a65c_isEmpty_aae02_1 ?_
  refine x_if_neN (tgt := 11) hx hb (by omega) dJx4a65c_isEmpty_aae02_4 (by decide) (fun c_1 => ?_) (fun c_1 => ?_)
  · refine lv_iconst (v := nI 0) hx hb dJx4a65c_isEmpty_aae02_11 (by decide +kernel) ?_
    exact x_rdi hQ hx hb hr (by decide) hlk (congrArg Value.int (bI_z (decide_eq_false (by omega)))) dJx4a65c_isEmpty_aae02_12
  · refine lv_iconst (v := nI 1) hx hb dJx4a65c_isEmpty_aae02_7 (by decide +kernel) ?_
    refine lv_goto (tgt := 12) hx hb dJx4a65c_isEmpty_aae02_8 (by decide) ?_
    exact x_rdi hQ hx hb hr (by decide) hlk (congrArg Value.int (bI_o (decide_eq_true c_1))) dJx4a65c_isEmpty_aae02_12
abbrev rmJ3_checkIndex_8e157 : Room := { frames := 0, cells := 0, slots := 0, locals := 0 }
theorem qdJ3_checkIndex_8e157 : yJ3_checkIndex_8e157.cls = RJ3 ∧ yJ3_checkIndex_8e157.cls ≠ "java/lang/invoke/MethodHandle" ∧ yJ3_checkIndex_8e157.cls ≠ "java/lang/invoke/VarHandle" ∧ (parseMethodDescriptor yJ3_checkIndex_8e157.desc).map (fun d => d.parameters.length) = some 3 := by decide +kernel
set_option maxHeartbeats 4000000 in
set_option maxRecDepth 100000 in
theorem c_J3_checkIndex_8e157 {l : Launch} {G : gT} {H : Heap} {i n : Nat} (hin : i < n) (hn : n < 2 ^ 31) : Rd G l yJ3_checkIndex_8e157 wsJ3_checkIndex_8e157 rmJ3_checkIndex_8e157 [.int (nI i), .int (nI n), .null] H (.int (nI i)) := by
  refine x_head (bytes := cJ3_checkIndex_8e157) (maxL := 3) (ret := (some .int)) (by decide) rfl (Nat.le_of_ble_eq_true rfl) ?_
  intro p e s m below meth c ls hx hb hml hown hts hr hlk hnm hK hs0 hl Q hQ
  have hl : lv_has ls 3 [(0, .int (nI i)), (1, .int (nI n)), (2, .null)] := hl
  have hC : CallFix p m c cJ3_checkIndex_8e157 3 s [.int (nI i), .int (nI n), .null].toArray wsJ3_checkIndex_8e157 RJ3 := ⟨hx, hb, hml, hown, hts⟩
  refine lv_iload_n hx hb dJ3_checkIndex_8e157_0 rfl (lv_at hl 0 rfl) ?_
  refine lv_if_lt (tgt := 9) hx hb dJ3_checkIndex_8e157_1 (by decide) (fun c_1 => ?_) (fun c_1 => ?_)
  · exact absurd c_1 (nI_pos (by omega))
  · refine lv_iload_n hx hb dJ3_checkIndex_8e157_4 rfl (lv_at hl 0 rfl) ?_
    refine lv_iload_n hx hb dJ3_checkIndex_8e157_5 rfl (lv_at hl 1 rfl) ?_
    refine x_icmp_lt (tgt := 16) hx hb (by omega) (by omega) dJ3_checkIndex_8e157_6 (by decide) (fun c_2 => ?_) (fun c_2 => ?_)
    · refine lv_iload_n hx hb dJ3_checkIndex_8e157_16 rfl (lv_at hl 0 rfl) ?_
      exact x_rdi hQ hx hb hr rfl hlk (rfl) dJ3_checkIndex_8e157_17
    · exact absurd hin (by omega)
abbrev rmJ15_checkIndex_7cf53 : Room := { frames := 1, cells := 0, slots := 0, locals := 22 }
theorem qdJ15_checkIndex_7cf53 : yJ15_checkIndex_7cf53.cls = RJ15 ∧ yJ15_checkIndex_7cf53.cls ≠ "java/lang/invoke/MethodHandle" ∧ yJ15_checkIndex_7cf53.cls ≠ "java/lang/invoke/VarHandle" ∧ (parseMethodDescriptor yJ15_checkIndex_7cf53.desc).map (fun d => d.parameters.length) = some 2 := by decide +kernel
set_option maxHeartbeats 4000000 in
set_option maxRecDepth 100000 in
theorem c_J15_checkIndex_7cf53 {l : Launch} {G : gT} {H : Heap} {i n : Nat} (hin : i < n) (hn : n < 2 ^ 31) : Rd G l yJ15_checkIndex_7cf53 wsJ15_checkIndex_7cf53 rmJ15_checkIndex_7cf53 [.int (nI i), .int (nI n)] H (.int (nI i)) := by
  refine x_head (bytes := cJ15_checkIndex_7cf53) (maxL := 2) (ret := (some .int)) (by decide) rfl (Nat.le_of_ble_eq_true rfl) ?_
  intro p e s m below meth c ls hx hb hml hown hts hr hlk hnm hK hs0 hl Q hQ
  have hl : lv_has ls 2 [(0, .int (nI i)), (1, .int (nI n))] := hl
  have hC : CallFix p m c cJ15_checkIndex_7cf53 2 s [.int (nI i), .int (nI n)].toArray wsJ15_checkIndex_7cf53 RJ15 := ⟨hx, hb, hml, hown, hts⟩
  refine lv_iload_n hx hb dJ15_checkIndex_7cf53_0 rfl (lv_at hl 0 rfl) ?_
  refine lv_iload_n hx hb dJ15_checkIndex_7cf53_1 rfl (lv_at hl 1 rfl) ?_
  refine lv_null hx hb dJ15_checkIndex_7cf53_2 ?_
  refine x_rd (va_runS (As := [.int (nI i), .int (nI n), .null]) (rest := []) hC (c_J3_checkIndex_8e157 hin hn) (va_cwS 3 hts gJ15_checkIndex_7cf53_J3_checkIndex_8e157 rfl rfl rfl qdJ3_checkIndex_8e157.2 ⟨Nat.le_of_ble_eq_true rfl, Nat.le_of_ble_eq_true rfl⟩) (x_preS hK) rfl rfl hl.1 rfl (lv_room (Nat.le_of_ble_eq_true rfl)) dJ15_checkIndex_7cf53_3 ⟨Nat.le_of_ble_eq_true rfl, Nat.le_of_ble_eq_true rfl⟩) ?_
  exact x_rdi hQ hx hb hr rfl hlk (rfl) dJ15_checkIndex_7cf53_6
abbrev rmJx4a65c_elementData_915e3 : Room := { frames := 0, cells := 0, slots := 0, locals := 0 }
theorem qdJx4a65c_elementData_915e3 : yJx4a65c_elementData_915e3.cls = RJx4a65c ∧ yJx4a65c_elementData_915e3.cls ≠ "java/lang/invoke/MethodHandle" ∧ yJx4a65c_elementData_915e3.cls ≠ "java/lang/invoke/VarHandle" ∧ (parseMethodDescriptor yJx4a65c_elementData_915e3.desc).map (fun d => d.parameters.length) = some 1 := by decide +kernel
set_option maxHeartbeats 4000000 in
set_option maxRecDepth 100000 in
theorem c_Jx4a65c_elementData_915e3 {l : Launch} {G : gT} {H : Heap} {a ea n cap i y : Nat} {mc : Int32} {g : Nat → Option Nat} (h1 : pt G a (alO mc ea n) H) (h2 : pt G ea (eQ G cap g) H) (hin : i < n) (hnc : n ≤ cap) (hcap : cap ≤ 100) (hg : g i = some y) : Rd G l yJx4a65c_elementData_915e3 wsJx4a65c_elementData_915e3 rmJx4a65c_elementData_915e3 [.ref a, .int (nI i)] H (.ref y) := by
  refine x_head (bytes := cJx4a65c_elementData_915e3) (maxL := 2) (ret := (some (.object "java/lang/Object"))) (by decide) rfl (Nat.le_of_ble_eq_true rfl) ?_
  intro p e s m below meth c ls hx hb hml hown hts hr hlk hnm hK hs0 hl Q hQ
  have hl : lv_has ls 2 [(0, .ref a), (1, .int (nI i))] := hl
  have hC : CallFix p m c cJx4a65c_elementData_915e3 2 s [.ref a, .int (nI i)].toArray wsJx4a65c_elementData_915e3 RJx4a65c := ⟨hx, hb, hml, hown, hts⟩
  have k_f9 := hts (.fieldLink RJx4a65c 9 "java/util/ArrayList" "elementData" "[Ljava/lang/Object;") (by decide +kernel)
  have in_Jx4a65c : ∀ w ∈ u_ws RJx4a65c TJx4a65c 3, w ∈ wsJx4a65c_elementData_915e3 := by decide +kernel
  refine lv_aload_n hx hb dJx4a65c_elementData_915e3_0 rfl (lv_at hl 0 rfl) ?_
  refine x_get (T := TJx4a65c) (N := 3) (v := .ref ea) hx hb hts in_Jx4a65c hown hK (h1) rfl 1 (by decide) k_f9 (fun _ h9 => h9) (rfl) dJx4a65c_elementData_915e3_1 ?_
  refine lv_iload_n hx hb dJx4a65c_elementData_915e3_4 rfl (lv_at hl 1 rfl) ?_
  refine x_aald hx hb hK (h2) (by omega) (by omega) dJx4a65c_elementData_915e3_5 ?_
  refine W.eq (g2 := F0 m 6 ls [.ref y]) (congrArg (fun z => F0 m 6 ls [z]) (show va_rf (g i) = .ref y by rw [hg]; rfl)) ?_
  exact x_rda hQ hx hb hr (Or.inl ⟨_, rfl⟩) hlk (Or.inr ⟨y, rfl⟩) rfl dJx4a65c_elementData_915e3_6
abbrev rmJx4a65c_get_915e3 : Room := { frames := 2, cells := 0, slots := 0, locals := 43 }
theorem qdJx4a65c_get_915e3 : yJx4a65c_get_915e3.cls = RJx4a65c ∧ yJx4a65c_get_915e3.cls ≠ "java/lang/invoke/MethodHandle" ∧ yJx4a65c_get_915e3.cls ≠ "java/lang/invoke/VarHandle" ∧ (parseMethodDescriptor yJx4a65c_get_915e3.desc).map (fun d => d.parameters.length) = some 1 := by decide +kernel
set_option maxHeartbeats 4000000 in
set_option maxRecDepth 100000 in
theorem c_get0 {l : Launch} {G : gT} {H : Heap} {a ea n cap i y : Nat} {mc : Int32} {g : Nat → Option Nat} (h1 : pt G a (alO mc ea n) H) (h2 : pt G ea (eQ G cap g) H) (hin : i < n) (hnc : n ≤ cap) (hcap : cap ≤ 100) (hg : g i = some y) : Rd G l yJx4a65c_get_915e3 wsJx4a65c_get_915e3 rmJx4a65c_get_915e3 [.ref a, .int (nI i)] H (.ref y) := by
  refine x_head (bytes := cJx4a65c_get_915e3) (maxL := 2) (ret := (some (.object "java/lang/Object"))) (by decide) rfl (Nat.le_of_ble_eq_true rfl) ?_
  intro p e s m below meth c ls hx hb hml hown hts hr hlk hnm hK hs0 hl Q hQ
  have hl : lv_has ls 2 [(0, .ref a), (1, .int (nI i))] := hl
  have hC : CallFix p m c cJx4a65c_get_915e3 2 s [.ref a, .int (nI i)].toArray wsJx4a65c_get_915e3 RJx4a65c := ⟨hx, hb, hml, hown, hts⟩
  have k_f48 := hts (.fieldLink RJx4a65c 48 "java/util/ArrayList" "size" "I") (by decide +kernel)
  have in_Jx4a65c : ∀ w ∈ u_ws RJx4a65c TJx4a65c 3, w ∈ wsJx4a65c_get_915e3 := by decide +kernel
  have hn : n < 2 ^ 31 := by omega
  refine lv_iload_n hx hb dJx4a65c_get_915e3_0 rfl (lv_at hl 1 rfl) ?_
  refine lv_aload_n hx hb dJx4a65c_get_915e3_1 rfl (lv_at hl 0 rfl) ?_
  refine x_get (T := TJx4a65c) (N := 3) (v := .int (nI n)) hx hb hts in_Jx4a65c hown hK (h1) rfl 2 (by decide) k_f48 (fun _ h9 => h9) (rfl) dJx4a65c_get_915e3_2 ?_
  refine x_rd (va_runS (As := [.int (nI i), .int (nI n)]) (rest := []) hC (c_J15_checkIndex_7cf53 hin hn) (va_cwS 2 hts gJx4a65c_get_915e3_J15_checkIndex_7cf53 rfl rfl rfl qdJ15_checkIndex_7cf53.2 ⟨Nat.le_of_ble_eq_true rfl, Nat.le_of_ble_eq_true rfl⟩) (x_preS hK) rfl rfl hl.1 rfl (lv_room (Nat.le_of_ble_eq_true rfl)) dJx4a65c_get_915e3_5 ⟨Nat.le_of_ble_eq_true rfl, Nat.le_of_ble_eq_true rfl⟩) ?_
  refine lv_pop hx hb dJx4a65c_get_915e3_8 rfl ?_
  refine lv_aload_n hx hb dJx4a65c_get_915e3_9 rfl (lv_at hl 0 rfl) ?_
  refine lv_iload_n hx hb dJx4a65c_get_915e3_10 rfl (lv_at hl 1 rfl) ?_
  refine x_rd (va_runV (As := [.int (nI i)]) (rest := []) hC (c_Jx4a65c_elementData_915e3 h1 h2 hin hnc hcap hg) (cwV 1 hts gJx4a65c_get_915e3_Jx4a65c_elementData_915e3 rfl rfl rfl qdJx4a65c_elementData_915e3 ⟨Nat.le_of_ble_eq_true rfl, Nat.le_of_ble_eq_true rfl⟩) (x_preV hK (x_recv hK (h1) rfl)) rfl rfl hl.1 rfl (lv_room (Nat.le_of_ble_eq_true rfl)) dJx4a65c_get_915e3_11 ⟨Nat.le_of_ble_eq_true rfl, Nat.le_of_ble_eq_true rfl⟩) ?_
  exact x_rda hQ hx hb hr (Or.inl ⟨_, rfl⟩) hlk (Or.inr ⟨y, rfl⟩) rfl dJx4a65c_get_915e3_14
theorem c_size {l : Launch} {G : gT} {a n : Nat} {f : Nat → Nat} {H : Heap} (h : alR G a f n H) : Rd G l yJx4a65c_size_8abf5 wsJx4a65c_size_8abf5 rmJx4a65c_size_8abf5 [.ref a] H (.int (nI n)) := by
  obtain ⟨mc, ea, cap, g, h1, -⟩ := h
  exact c_size0 h1
theorem c_isEmpty {l : Launch} {G : gT} {a n : Nat} {f : Nat → Nat} {H : Heap} (h : alR G a f n H) : Rd G l yJx4a65c_isEmpty_aae02 wsJx4a65c_isEmpty_aae02 rmJx4a65c_isEmpty_aae02 [.ref a] H (.int (bI (decide (n = 0)))) := by
  obtain ⟨mc, ea, cap, g, h1, h2, h3, -⟩ := h
  exact c_isEmpty0 h1 (by omega)
theorem c_get {l : Launch} {G : gT} {a n i : Nat} {f : Nat → Nat} {H : Heap} (h : alR G a f n H) (hi : i < n) : Rd G l yJx4a65c_get_915e3 wsJx4a65c_get_915e3 rmJx4a65c_get_915e3 [.ref a, .int (nI i)] H (.ref (f i)) := by
  obtain ⟨mc, ea, cap, g, h1, h2, h3, h4, h5⟩ := h
  exact c_get0 h1 (h4 (by omega)) hi h2 h3 (h5 i hi)
abbrev rmX0_timeAt : Room := { frames := 1, cells := 0, slots := 0, locals := 18 }
theorem qdX0_timeAt : yX0_timeAt.cls = RX0 ∧ yX0_timeAt.cls ≠ "java/lang/invoke/MethodHandle" ∧ yX0_timeAt.cls ≠ "java/lang/invoke/VarHandle" ∧ (parseMethodDescriptor yX0_timeAt.desc).map (fun d => d.parameters.length) = some 1 := by decide +kernel
set_option maxHeartbeats 4000000 in
set_option maxRecDepth 100000 in
theorem c_X0_timeAt {l : Launch} {G : gT} {H : Heap} {T : Nat → Int32} {ha : Nat → Nat} {j : Nat} {L : Nat → Int32} {i : Nat} (hh : haP G T ha j H) (hS : okS L i) (hH : okH T j) : Rd G l yX0_timeAt wsX0_timeAt rmX0_timeAt [.ref (ha j), .int ((gL L i 0))] H (.int (cto L T j i)) := by
  refine x_head (bytes := cX0_timeAt) (maxL := 4) (ret := (some .int)) (by decide) rfl (Nat.le_of_ble_eq_true rfl) ?_
  intro p e s m below meth c ls hx hb hml hown hts hr hlk hnm hK hs0 hl Q hQ
  have hl : lv_has ls 4 [(0, .ref (ha j)), (1, .int (gL L i 0))] := hl
  have hC : CallFix p m c cX0_timeAt 4 s [.ref (ha j), .int (gL L i 0)].toArray wsX0_timeAt RX0 := ⟨hx, hb, hml, hown, hts⟩
  have k_f15 := hts (.fieldLink RX0 15 "SundogLine$Halo" "place" "I") (by decide +kernel)
  have in_X0 : ∀ w ∈ u_ws RX0 TX0 4, w ∈ wsX0_timeAt := by decide +kernel
  have k_f18 := hts (.fieldLink RX0 18 "SundogLine$Halo" "speed" "I") (by decide +kernel)
  have k_f9 := hts (.fieldLink RX0 9 "SundogLine$Halo" "begin" "I") (by decide +kernel)
  have k_m24 := hts (.methodLink RX0 24 Lib.Math.abs.name) (by decide +kernel)
  have k_msabs := hts (.static Lib.Math.abs.name) (by decide +kernel)
  have k_mi := hts (.initialized "java/lang/Math") (by decide +kernel)
  have k_mcabs := hts (.code Lib.Math.abs.name Lib.Math.abs.code 1 (some .int)) (by decide +kernel)
  have k_f21 := hts (.fieldLink RX0 21 "SundogLine$Halo" "direction" "I") (by decide +kernel)
  have hp1 := hS.1
  have hp2 := hH.2.1
  have ag := ag_pos (x := gL L i 0 - gT' T j 1) (y := gT' T j 3) (by rw [sub_toInt (by omega) (by omega)]; omega) hH.2.2.2
  refine lv_iload_n hx hb dX0_timeAt_0 rfl (lv_at hl 1 rfl) ?_
  refine lv_aload_n hx hb dX0_timeAt_1 rfl (lv_at hl 0 rfl) ?_
  refine x_get (T := TX0) (N := 4) (v := .int (gT' T j 1)) hx hb hts in_X0 hown hK (hh) rfl 1 (by decide) k_f15 (fun _ h9 => h9) (rfl) dX0_timeAt_2 ?_
  refine lv_isub hx hb dX0_timeAt_5 ?_
  refine lv_istore_n (lv' := [(2, .int ((gL L i 0) - (gT' T j 1))), (0, .ref (ha j)), (1, .int (gL L i 0))]) hx hb dX0_timeAt_6 rfl hl (by decide) rfl (fun ls hl => ?_)
  have j_1 : W p l e rmX0_timeAt s m [.ref (ha j), .int (gL L i 0)].toArray below meth c H [] 0 0 Q (F0 m 34 ls [.int (bI (!decide (0 ≤ (gL L i 0 - gT' T j 1) * gT' T j 3)))]) := by
    refine lv_istore_n (lv' := [(3, .int (bI (!decide (0 ≤ (gL L i 0 - gT' T j 1) * gT' T j 3)))), (2, .int ((gL L i 0) - (gT' T j 1))), (0, .ref (ha j)), (1, .int (gL L i 0))]) hx hb dX0_timeAt_34 rfl hl (by decide) rfl (fun ls hl => ?_)
    refine lv_iload_n hx hb dX0_timeAt_35 rfl (lv_at hl 0 rfl) ?_
    refine x_if_neB (tgt := 47) hx hb dX0_timeAt_36 (by decide) (fun c_2 => ?_) (fun c_2 => ?_)
    · refine lv_iconst (v := (-1)) hx hb dX0_timeAt_47 (by decide +kernel) ?_
      exact x_rdi hQ hx hb hr rfl hlk (by simp only [cto]; rw [if_neg (fun z => by rw [decide_eq_true z] at c_2; exact absurd c_2 (by decide))]) dX0_timeAt_48
    · refine lv_aload_n hx hb dX0_timeAt_39 rfl (lv_at hl 2 rfl) ?_
      refine x_get (T := TX0) (N := 4) (v := .int (gT' T j 2)) hx hb hts in_X0 hown hK (hh) rfl 2 (by decide) k_f18 (fun _ h9 => h9) (rfl) dX0_timeAt_40 ?_
      refine lv_iconst (v := nI 1) hx hb dX0_timeAt_43 (by decide +kernel) ?_
      refine lv_icmp_ge (tgt := 49) hx hb dX0_timeAt_44 (by decide) (fun c_3 => ?_) (fun c_3 => ?_)
      · refine lv_aload_n hx hb dX0_timeAt_49 rfl (lv_at hl 2 rfl) ?_
        refine x_get (T := TX0) (N := 4) (v := .int (gT' T j 0)) hx hb hts in_X0 hown hK (hh) rfl 0 (by decide) k_f9 (fun _ h9 => h9) (rfl) dX0_timeAt_50 ?_
        refine lv_bipush (v := nI 100) hx hb dX0_timeAt_53 (by decide +kernel) ?_
        refine lv_iload_n hx hb dX0_timeAt_55 rfl (lv_at hl 1 rfl) ?_
        refine va_mabs hx hb (hml.trans hl.1.symm) hown k_m24 k_msabs k_mi k_mcabs (by decide) (Nat.le_of_ble_eq_true rfl) (Nat.zero_le _) (Nat.zero_le _) dX0_timeAt_56 ?_
        refine W.eq (g2 := F0 m 59 ls [.int (ab ((gL L i 0) - (gT' T j 1))), .int (nI 100), .int (gT' T j 0)]) rfl ?_
        refine lv_imul hx hb dX0_timeAt_59 ?_
        refine lv_aload_n hx hb dX0_timeAt_60 rfl (lv_at hl 2 rfl) ?_
        refine x_get (T := TX0) (N := 4) (v := .int (gT' T j 2)) hx hb hts in_X0 hown hK (hh) rfl 2 (by decide) k_f18 (fun _ h9 => h9) (rfl) dX0_timeAt_61 ?_
        refine lv_iadd hx hb dX0_timeAt_64 ?_
        refine lv_iconst (v := nI 1) hx hb dX0_timeAt_65 (by decide +kernel) ?_
        refine lv_isub hx hb dX0_timeAt_66 ?_
        refine lv_aload_n hx hb dX0_timeAt_67 rfl (lv_at hl 2 rfl) ?_
        refine x_get (T := TX0) (N := 4) (v := .int (gT' T j 2)) hx hb hts in_X0 hown hK (hh) rfl 2 (by decide) k_f18 (fun _ h9 => h9) (rfl) dX0_timeAt_68 ?_
        refine lv_idiv hx hb dX0_timeAt_71 (fun z => absurd (show (1 : Int) ≤ 0 by have q := hH.2.2.1.1; rw [z] at q; exact q) (by decide)) ?_
        refine lv_iadd hx hb dX0_timeAt_72 ?_
        exact x_rdi hQ hx hb hr rfl hlk (by simp only [cto]; rw [if_pos (by have q := c_2; rw [Bool.not_eq_false'] at q; exact of_decide_eq_true q)]) dX0_timeAt_73
      · exact absurd (Int32.le_iff_toInt_le.mpr (show (nI 1).toInt ≤ (gT' T j 2).toInt from hH.2.2.1.1)) c_3
  refine lv_aload_n hx hb dX0_timeAt_7 rfl (lv_at hl 1 rfl) ?_
  refine x_get (T := TX0) (N := 4) (v := .int (gT' T j 3)) hx hb hts in_X0 hown hK (hh) rfl 3 (by decide) k_f21 (fun _ h9 => h9) (rfl) dX0_timeAt_8 ?_
  refine lv_if_le (tgt := 18) hx hb dX0_timeAt_11 (by decide) (fun c_4 => ?_) (fun c_4 => ?_)
  · refine lv_aload_n hx hb dX0_timeAt_18 rfl (lv_at hl 1 rfl) ?_
    refine x_get (T := TX0) (N := 4) (v := .int (gT' T j 3)) hx hb hts in_X0 hown hK (hh) rfl 3 (by decide) k_f21 (fun _ h9 => h9) (rfl) dX0_timeAt_19 ?_
    refine lv_if_ge (tgt := 33) hx hb dX0_timeAt_22 (by decide) (fun c_5 => ?_) (fun c_5 => ?_)
    · refine lv_iconst (v := nI 0) hx hb dX0_timeAt_33 (by decide +kernel) ?_
      exact W.eq (g2 := F0 m 34 ls [.int (bI (!decide (0 ≤ (gL L i 0 - gT' T j 1) * gT' T j 3)))]) (congrArg (fun z => F0 m 34 ls (.int z :: [])) (bI_z (by have q11 := le0.mp c_4; have q22 := ge0.mp c_5; rw [decide_eq_true (ag.mpr (by omega))]; rfl))) j_1
    · refine lv_iload_n hx hb dX0_timeAt_25 rfl (lv_at hl 0 rfl) ?_
      refine lv_if_le (tgt := 33) hx hb dX0_timeAt_26 (by decide) (fun c_6 => ?_) (fun c_6 => ?_)
      · refine lv_iconst (v := nI 0) hx hb dX0_timeAt_33 (by decide +kernel) ?_
        exact W.eq (g2 := F0 m 34 ls [.int (bI (!decide (0 ≤ (gL L i 0 - gT' T j 1) * gT' T j 3)))]) (congrArg (fun z => F0 m 34 ls (.int z :: [])) (bI_z (by have q11 := le0.mp c_4; have q22 := mt ge0.mpr c_5; have q26 := le0.mp c_6; rw [decide_eq_true (ag.mpr (by omega))]; rfl))) j_1
      · refine lv_iconst (v := nI 1) hx hb dX0_timeAt_29 (by decide +kernel) ?_
        refine lv_goto (tgt := 34) hx hb dX0_timeAt_30 (by decide) ?_
        exact W.eq (g2 := F0 m 34 ls [.int (bI (!decide (0 ≤ (gL L i 0 - gT' T j 1) * gT' T j 3)))]) (congrArg (fun z => F0 m 34 ls (.int z :: [])) (bI_o (by have q11 := le0.mp c_4; have q22 := mt ge0.mpr c_5; have q26 := mt le0.mpr c_6; rw [decide_eq_false (fun z => ag.mp z (by omega))]; rfl))) j_1
  · refine lv_iload_n hx hb dX0_timeAt_14 rfl (lv_at hl 0 rfl) ?_
    refine lv_if_lt (tgt := 29) hx hb dX0_timeAt_15 (by decide) (fun c_7 => ?_) (fun c_7 => ?_)
    · refine lv_iconst (v := nI 1) hx hb dX0_timeAt_29 (by decide +kernel) ?_
      refine lv_goto (tgt := 34) hx hb dX0_timeAt_30 (by decide) ?_
      exact W.eq (g2 := F0 m 34 ls [.int (bI (!decide (0 ≤ (gL L i 0 - gT' T j 1) * gT' T j 3)))]) (congrArg (fun z => F0 m 34 ls (.int z :: [])) (bI_o (by have q11 := mt le0.mpr c_4; have q15 := lt0.mp c_7; rw [decide_eq_false (fun z => ag.mp z (by omega))]; rfl))) j_1
    · refine lv_aload_n hx hb dX0_timeAt_18 rfl (lv_at hl 1 rfl) ?_
      refine x_get (T := TX0) (N := 4) (v := .int (gT' T j 3)) hx hb hts in_X0 hown hK (hh) rfl 3 (by decide) k_f21 (fun _ h9 => h9) (rfl) dX0_timeAt_19 ?_
      refine lv_if_ge (tgt := 33) hx hb dX0_timeAt_22 (by decide) (fun c_8 => ?_) (fun c_8 => ?_)
      · refine lv_iconst (v := nI 0) hx hb dX0_timeAt_33 (by decide +kernel) ?_
        exact W.eq (g2 := F0 m 34 ls [.int (bI (!decide (0 ≤ (gL L i 0 - gT' T j 1) * gT' T j 3)))]) (congrArg (fun z => F0 m 34 ls (.int z :: [])) (bI_z (by have q11 := mt le0.mpr c_4; have q22 := ge0.mp c_8; have q15 := mt lt0.mpr c_7; rw [decide_eq_true (ag.mpr (by omega))]; rfl))) j_1
      · refine lv_iload_n hx hb dX0_timeAt_25 rfl (lv_at hl 0 rfl) ?_
        refine lv_if_le (tgt := 33) hx hb dX0_timeAt_26 (by decide) (fun c_9 => ?_) (fun c_9 => ?_)
        · refine lv_iconst (v := nI 0) hx hb dX0_timeAt_33 (by decide +kernel) ?_
          exact W.eq (g2 := F0 m 34 ls [.int (bI (!decide (0 ≤ (gL L i 0 - gT' T j 1) * gT' T j 3)))]) (congrArg (fun z => F0 m 34 ls (.int z :: [])) (bI_z (by have q11 := mt le0.mpr c_4; have q22 := mt ge0.mpr c_8; have q26 := le0.mp c_9; have q15 := mt lt0.mpr c_7; rw [decide_eq_true (ag.mpr (by omega))]; rfl))) j_1
        · refine lv_iconst (v := nI 1) hx hb dX0_timeAt_29 (by decide +kernel) ?_
          refine lv_goto (tgt := 34) hx hb dX0_timeAt_30 (by decide) ?_
          exact W.eq (g2 := F0 m 34 ls [.int (bI (!decide (0 ≤ (gL L i 0 - gT' T j 1) * gT' T j 3)))]) (congrArg (fun z => F0 m 34 ls (.int z :: [])) (bI_o (by have q11 := mt le0.mpr c_4; have q22 := mt ge0.mpr c_8; have q26 := mt le0.mpr c_9; have q15 := mt lt0.mpr c_7; rw [decide_eq_false (fun z => ag.mp z (by omega))]; rfl))) j_1
abbrev rmX2_uncorrectedAt : Room := { frames := 0, cells := 0, slots := 0, locals := 0 }
theorem qdX2_uncorrectedAt : yX2_uncorrectedAt.cls = RX2 ∧ yX2_uncorrectedAt.cls ≠ "java/lang/invoke/MethodHandle" ∧ yX2_uncorrectedAt.cls ≠ "java/lang/invoke/VarHandle" ∧ (parseMethodDescriptor yX2_uncorrectedAt.desc).map (fun d => d.parameters.length) = some 1 := by decide +kernel
set_option maxHeartbeats 4000000 in
set_option maxRecDepth 100000 in
theorem c_X2_uncorrectedAt {l : Launch} {G : gT} {H : Heap} {L : Nat → Int32} {sa fa ta : Nat → Nat} {F U : Nat → Nat → Int32} {i : Nat} (hs : stP G L sa fa ta F U i H) {t : Int32} : Rd G l yX2_uncorrectedAt wsX2_uncorrectedAt rmX2_uncorrectedAt [.ref (sa i), .int t] H (.int (t + gL L i 1 + gL L i 2 * t / nI 1000)) := by
  refine x_head (bytes := cX2_uncorrectedAt) (maxL := 2) (ret := (some .int)) (by decide) rfl (Nat.le_of_ble_eq_true rfl) ?_
  intro p e s m below meth c ls hx hb hml hown hts hr hlk hnm hK hs0 hl Q hQ
  have hl : lv_has ls 2 [(0, .ref (sa i)), (1, .int t)] := hl
  have hC : CallFix p m c cX2_uncorrectedAt 2 s [.ref (sa i), .int t].toArray wsX2_uncorrectedAt RX2 := ⟨hx, hb, hml, hown, hts⟩
  have k_f18 := hts (.fieldLink RX2 18 "SundogLine$Station" "offset" "I") (by decide +kernel)
  have in_X2 : ∀ w ∈ u_ws RX2 TX2 8, w ∈ wsX2_uncorrectedAt := by decide +kernel
  have k_f21 := hts (.fieldLink RX2 21 "SundogLine$Station" "drift" "I") (by decide +kernel)
  refine lv_iload_n hx hb dX2_uncorrectedAt_0 rfl (lv_at hl 1 rfl) ?_
  refine lv_aload_n hx hb dX2_uncorrectedAt_1 rfl (lv_at hl 0 rfl) ?_
  refine x_get (T := TX2) (N := 8) (v := .int (gL L i 1)) hx hb hts in_X2 hown hK (hs.1) rfl 2 (by decide) k_f18 (fun _ h9 => h9) (rfl) dX2_uncorrectedAt_2 ?_
  refine lv_iadd hx hb dX2_uncorrectedAt_5 ?_
  refine lv_aload_n hx hb dX2_uncorrectedAt_6 rfl (lv_at hl 0 rfl) ?_
  refine x_get (T := TX2) (N := 8) (v := .int (gL L i 2)) hx hb hts in_X2 hown hK (hs.1) rfl 3 (by decide) k_f21 (fun _ h9 => h9) (rfl) dX2_uncorrectedAt_7 ?_
  refine lv_iload_n hx hb dX2_uncorrectedAt_10 rfl (lv_at hl 1 rfl) ?_
  refine lv_imul hx hb dX2_uncorrectedAt_11 ?_
  refine lv_sipush (v := nI 1000) hx hb dX2_uncorrectedAt_12 (by decide +kernel) ?_
  refine lv_idiv hx hb dX2_uncorrectedAt_15 (by decide) ?_
  refine lv_iadd hx hb dX2_uncorrectedAt_16 ?_
  exact x_rdi hQ hx hb hr rfl hlk (rfl) dX2_uncorrectedAt_17
abbrev rmX2_readsAt : Room := { frames := 1, cells := 0, slots := 0, locals := 21 }
theorem qdX2_readsAt : yX2_readsAt.cls = RX2 ∧ yX2_readsAt.cls ≠ "java/lang/invoke/MethodHandle" ∧ yX2_readsAt.cls ≠ "java/lang/invoke/VarHandle" ∧ (parseMethodDescriptor yX2_readsAt.desc).map (fun d => d.parameters.length) = some 1 := by decide +kernel
set_option maxHeartbeats 4000000 in
set_option maxRecDepth 100000 in
theorem c_X2_readsAt {l : Launch} {G : gT} {H : Heap} {L : Nat → Int32} {sa fa ta : Nat → Nat} {F U : Nat → Nat → Int32} {i : Nat} (hs : stP G L sa fa ta F U i H) {t : Int32} : Rd G l yX2_readsAt wsX2_readsAt rmX2_readsAt [.ref (sa i), .int t] H (.int (clk L i t)) := by
  refine x_head (bytes := cX2_readsAt) (maxL := 2) (ret := (some .int)) (by decide) rfl (Nat.le_of_ble_eq_true rfl) ?_
  intro p e s m below meth c ls hx hb hml hown hts hr hlk hnm hK hs0 hl Q hQ
  have hl : lv_has ls 2 [(0, .ref (sa i)), (1, .int t)] := hl
  have hC : CallFix p m c cX2_readsAt 2 s [.ref (sa i), .int t].toArray wsX2_readsAt RX2 := ⟨hx, hb, hml, hown, hts⟩
  have k_f35 := hts (.fieldLink RX2 35 "SundogLine$Station" "correction" "I") (by decide +kernel)
  have in_X2 : ∀ w ∈ u_ws RX2 TX2 8, w ∈ wsX2_readsAt := by decide +kernel
  refine lv_aload_n hx hb dX2_readsAt_0 rfl (lv_at hl 0 rfl) ?_
  refine lv_iload_n hx hb dX2_readsAt_1 rfl (lv_at hl 1 rfl) ?_
  refine x_rd (va_runV (As := [.int t]) (rest := []) hC (c_X2_uncorrectedAt (hs)) (cwV 1 hts gX2_readsAt_X2_uncorrectedAt rfl rfl rfl qdX2_uncorrectedAt ⟨Nat.le_of_ble_eq_true rfl, Nat.le_of_ble_eq_true rfl⟩) (x_preV hK (x_recv hK (hs.1) rfl)) rfl rfl hl.1 rfl (lv_room (Nat.le_of_ble_eq_true rfl)) dX2_readsAt_2 ⟨Nat.le_of_ble_eq_true rfl, Nat.le_of_ble_eq_true rfl⟩) ?_
  refine lv_aload_n hx hb dX2_readsAt_5 rfl (lv_at hl 0 rfl) ?_
  refine x_get (T := TX2) (N := 8) (v := .int (gL L i 3)) hx hb hts in_X2 hown hK (hs.1) rfl 4 (by decide) k_f35 (fun _ h9 => h9) (rfl) dX2_readsAt_6 ?_
  refine lv_isub hx hb dX2_readsAt_9 ?_
  exact x_rdi hQ hx hb hr rfl hlk (rfl) dX2_readsAt_10
abbrev rmX2_correctionToRead : Room := { frames := 1, cells := 0, slots := 0, locals := 21 }
theorem qdX2_correctionToRead : yX2_correctionToRead.cls = RX2 ∧ yX2_correctionToRead.cls ≠ "java/lang/invoke/MethodHandle" ∧ yX2_correctionToRead.cls ≠ "java/lang/invoke/VarHandle" ∧ (parseMethodDescriptor yX2_correctionToRead.desc).map (fun d => d.parameters.length) = some 2 := by decide +kernel
set_option maxHeartbeats 4000000 in
set_option maxRecDepth 100000 in
theorem c_X2_correctionToRead {l : Launch} {G : gT} {H : Heap} {L : Nat → Int32} {sa fa ta : Nat → Nat} {F U : Nat → Nat → Int32} {i : Nat} (hs : stP G L sa fa ta F U i H) {rd t : Int32} : Rd G l yX2_correctionToRead wsX2_correctionToRead rmX2_correctionToRead [.ref (sa i), .int rd, .int t] H (.int (unc L i t - rd)) := by
  refine x_head (bytes := cX2_correctionToRead) (maxL := 3) (ret := (some .int)) (by decide) rfl (Nat.le_of_ble_eq_true rfl) ?_
  intro p e s m below meth c ls hx hb hml hown hts hr hlk hnm hK hs0 hl Q hQ
  have hl : lv_has ls 3 [(0, .ref (sa i)), (1, .int rd), (2, .int t)] := hl
  have hC : CallFix p m c cX2_correctionToRead 3 s [.ref (sa i), .int rd, .int t].toArray wsX2_correctionToRead RX2 := ⟨hx, hb, hml, hown, hts⟩
  refine lv_aload_n hx hb dX2_correctionToRead_0 rfl (lv_at hl 0 rfl) ?_
  refine lv_iload_n hx hb dX2_correctionToRead_1 rfl (lv_at hl 2 rfl) ?_
  refine x_rd (va_runV (As := [.int t]) (rest := []) hC (c_X2_uncorrectedAt (hs)) (cwV 1 hts gX2_correctionToRead_X2_uncorrectedAt rfl rfl rfl qdX2_uncorrectedAt ⟨Nat.le_of_ble_eq_true rfl, Nat.le_of_ble_eq_true rfl⟩) (x_preV hK (x_recv hK (hs.1) rfl)) rfl rfl hl.1 rfl (lv_room (Nat.le_of_ble_eq_true rfl)) dX2_correctionToRead_2 ⟨Nat.le_of_ble_eq_true rfl, Nat.le_of_ble_eq_true rfl⟩) ?_
  refine lv_iload_n hx hb dX2_correctionToRead_5 rfl (lv_at hl 1 rfl) ?_
  refine lv_isub hx hb dX2_correctionToRead_6 ?_
  exact x_rdi hQ hx hb hr rfl hlk (rfl) dX2_correctionToRead_7
abbrev rmX2_isFullOfClouds : Room := { frames := 0, cells := 0, slots := 0, locals := 0 }
theorem qdX2_isFullOfClouds : yX2_isFullOfClouds.cls = RX2 ∧ yX2_isFullOfClouds.cls ≠ "java/lang/invoke/MethodHandle" ∧ yX2_isFullOfClouds.cls ≠ "java/lang/invoke/VarHandle" ∧ (parseMethodDescriptor yX2_isFullOfClouds.desc).map (fun d => d.parameters.length) = some 0 := by decide +kernel
set_option maxHeartbeats 4000000 in
set_option maxRecDepth 100000 in
theorem c_X2_isFullOfClouds {l : Launch} {G : gT} {H : Heap} {L : Nat → Int32} {sa fa ta : Nat → Nat} {F U : Nat → Nat → Int32} {i : Nat} (hs : stP G L sa fa ta F U i H) (hS : okS L i) : Rd G l yX2_isFullOfClouds wsX2_isFullOfClouds rmX2_isFullOfClouds [.ref (sa i)] H (.int (bI (decide (nc L i = 4)))) := by
  refine x_head (bytes := cX2_isFullOfClouds) (maxL := 1) (ret := (some .boolean)) (by decide) rfl (Nat.le_of_ble_eq_true rfl) ?_
  intro p e s m below meth c ls hx hb hml hown hts hr hlk hnm hK hs0 hl Q hQ
  have hl : lv_has ls 1 [(0, .ref (sa i))] := hl
  have hC : CallFix p m c cX2_isFullOfClouds 1 s [.ref (sa i)].toArray wsX2_isFullOfClouds RX2 := ⟨hx, hb, hml, hown, hts⟩
  have k_f38 := hts (.fieldLink RX2 38 "SundogLine$Station" "clouds" "I") (by decide +kernel)
  have in_X2 : ∀ w ∈ u_ws RX2 TX2 8, w ∈ wsX2_isFullOfClouds := by decide +kernel
  have hc := hS.2.2.2.2.1.1
  have hc4 := hS.2.2.2.2.1.2
  refine lv_aload_n hx hb dX2_isFullOfClouds_0 rfl (lv_at hl 0 rfl) ?_
  refine x_get (T := TX2) (N := 8) (v := .int (nI (nc L i))) hx hb hts in_X2 hown hK (hs.1) rfl 5 (by decide) k_f38 (fun _ h9 => h9) (congrArg (fun z => some (Value.int z)) hc) dX2_isFullOfClouds_1 ?_
  refine lv_iconst (v := nI 4) hx hb dX2_isFullOfClouds_4 (by decide +kernel) ?_
  refine x_icmp_lt (tgt := 12) hx hb (by omega) (by omega) dX2_isFullOfClouds_5 (by decide) (fun c_1 => ?_) (fun c_1 => ?_)
  · refine lv_iconst (v := nI 0) hx hb dX2_isFullOfClouds_12 (by decide +kernel) ?_
    exact x_rdi hQ hx hb hr (by decide) hlk (congrArg Value.int (bI_z (decide_eq_false (by omega)))) dX2_isFullOfClouds_13
  · refine lv_iconst (v := nI 1) hx hb dX2_isFullOfClouds_8 (by decide +kernel) ?_
    refine lv_goto (tgt := 13) hx hb dX2_isFullOfClouds_9 (by decide) ?_
    exact x_rdi hQ hx hb hr (by decide) hlk (congrArg Value.int (bI_o (decide_eq_true (by omega)))) dX2_isFullOfClouds_13
abbrev rmX2_isCoveredAt : Room := { frames := 0, cells := 0, slots := 0, locals := 0 }
theorem qdX2_isCoveredAt : yX2_isCoveredAt.cls = RX2 ∧ yX2_isCoveredAt.cls ≠ "java/lang/invoke/MethodHandle" ∧ yX2_isCoveredAt.cls ≠ "java/lang/invoke/VarHandle" ∧ (parseMethodDescriptor yX2_isCoveredAt.desc).map (fun d => d.parameters.length) = some 1 := by decide +kernel
set_option maxHeartbeats 4000000 in
set_option maxRecDepth 100000 in
theorem c_X2_isCoveredAt {l : Launch} {G : gT} {H : Heap} {L : Nat → Int32} {sa fa ta : Nat → Nat} {F U : Nat → Nat → Int32} {i : Nat} (hs : stP G L sa fa ta F U i H) (hS : okS L i) {t : Int32} : Rd G l yX2_isCoveredAt wsX2_isCoveredAt rmX2_isCoveredAt [.ref (sa i), .int t] H (.int (bI (!clr L i t (nc L i)))) := by
  refine x_head (bytes := cX2_isCoveredAt) (maxL := 3) (ret := (some .boolean)) (by decide) rfl (Nat.le_of_ble_eq_true rfl) ?_
  intro p e s m below meth c ls hx hb hml hown hts hr hlk hnm hK hs0 hl Q hQ
  have hl : lv_has ls 3 [(0, .ref (sa i)), (1, .int t)] := hl
  have hC : CallFix p m c cX2_isCoveredAt 3 s [.ref (sa i), .int t].toArray wsX2_isCoveredAt RX2 := ⟨hx, hb, hml, hown, hts⟩
  have k_f38 := hts (.fieldLink RX2 38 "SundogLine$Station" "clouds" "I") (by decide +kernel)
  have in_X2 : ∀ w ∈ u_ws RX2 TX2 8, w ∈ wsX2_isCoveredAt := by decide +kernel
  have k_f24 := hts (.fieldLink RX2 24 "SundogLine$Station" "cloudFrom" "[I") (by decide +kernel)
  have k_f28 := hts (.fieldLink RX2 28 "SundogLine$Station" "cloudTo" "[I") (by decide +kernel)
  have hc := hS.2.2.2.2.1.1
  have hc4 := hS.2.2.2.2.1.2
  refine lv_iconst (v := nI 0) hx hb dX2_isCoveredAt_0 (by decide +kernel) ?_
  refine lv_istore_n (lv' := [(2, .int (nI 0)), (0, .ref (sa i)), (1, .int t)]) hx hb dX2_isCoveredAt_1 rfl hl (by decide) rfl (fun ls hl => ?_)
  have loop_1 : ∀ (fu : Nat) (k9 : Nat)  (ls : Array Slot), nc L i - k9 < fu → (k9 ≤ nc L i) → (clr L i t k9 = true) → lv_has ls 3 [(0, .ref (sa i)), (1, .int t), (2, .int (nI k9))] → W p l e rmX2_isCoveredAt s m [.ref (sa i), .int t].toArray below meth c H [] 0 0 Q (F0 m 2 ls []) := by
    intro fu
    induction fu with
    | zero => intro k9 ls hms hk hcl hl; exact absurd hms (Nat.not_lt_zero _)
    | succ fu ih_1 =>
      intro k9 ls hms hk hcl hl
      refine lv_iload_n hx hb dX2_isCoveredAt_2 rfl (lv_at hl 2 rfl) ?_
      refine lv_aload_n hx hb dX2_isCoveredAt_3 rfl (lv_at hl 0 rfl) ?_
      refine x_get (T := TX2) (N := 8) (v := .int (nI (nc L i))) hx hb hts in_X2 hown hK (hs.1) rfl 5 (by decide) k_f38 (fun _ h9 => h9) (congrArg (fun z => some (Value.int z)) hc) dX2_isCoveredAt_4 ?_
      refine x_icmp_ge (tgt := 56) hx hb (by omega) (by omega) dX2_isCoveredAt_7 (by decide) (fun c_2 => ?_) (fun c_2 => ?_)
      · refine lv_iconst (v := nI 0) hx hb dX2_isCoveredAt_56 (by decide +kernel) ?_
        exact x_rdi hQ hx hb hr (by decide) hlk (congrArg Value.int (bI_z (by rw [← show k9 = nc L i by omega, hcl]; rfl))) dX2_isCoveredAt_57
      · refine lv_iload_n hx hb dX2_isCoveredAt_10 rfl (lv_at hl 2 rfl) ?_
        refine lv_aload_n hx hb dX2_isCoveredAt_11 rfl (lv_at hl 0 rfl) ?_
        refine x_get (T := TX2) (N := 8) (v := .ref (fa i)) hx hb hts in_X2 hown hK (hs.1) rfl 6 (by decide) k_f24 (fun _ h9 => h9) (rfl) dX2_isCoveredAt_12 ?_
        refine x_alen (t0 := 0) hx hb hK (hs.2.1) rfl dX2_isCoveredAt_15 ?_
        refine x_icmp_ge (tgt := 56) hx hb (by omega) (by omega) dX2_isCoveredAt_16 (by decide) (fun c_3 => ?_) (fun c_3 => ?_)
        · exact absurd c_3 (by omega)
        · refine lv_iload_n hx hb dX2_isCoveredAt_19 rfl (lv_at hl 2 rfl) ?_
          refine lv_aload_n hx hb dX2_isCoveredAt_20 rfl (lv_at hl 0 rfl) ?_
          refine x_get (T := TX2) (N := 8) (v := .ref (ta i)) hx hb hts in_X2 hown hK (hs.1) rfl 7 (by decide) k_f28 (fun _ h9 => h9) (rfl) dX2_isCoveredAt_21 ?_
          refine x_alen (t0 := 0) hx hb hK (hs.2.2.1) rfl dX2_isCoveredAt_24 ?_
          refine x_icmp_ge (tgt := 56) hx hb (by omega) (by omega) dX2_isCoveredAt_25 (by decide) (fun c_4 => ?_) (fun c_4 => ?_)
          · exact absurd c_4 (by omega)
          · have hfu := hs.2.2.2 k9 (by omega)
            have hcv := hS.2.2.2.2.2 k9 (by omega)
            have hto : 0 < (gL L i (5 + 2 * k9 + 1)).toInt := by omega
            refine lv_aload_n hx hb dX2_isCoveredAt_28 rfl (lv_at hl 0 rfl) ?_
            refine x_get (T := TX2) (N := 8) (v := .ref (fa i)) hx hb hts in_X2 hown hK (hs.1) rfl 6 (by decide) k_f24 (fun _ h9 => h9) (rfl) dX2_isCoveredAt_29 ?_
            refine lv_iload_n hx hb dX2_isCoveredAt_32 rfl (lv_at hl 2 rfl) ?_
            refine x_ialdN hx hb hK (hs.2.1) (by omega) (by decide) dX2_isCoveredAt_33 ?_
            refine W.eq (g2 := F0 m 34 ls [.int (gL L i (5 + 2 * k9))]) (congrArg (fun z => F0 m 34 ls (.int z :: [])) (hfu.1)) ?_
            refine lv_iload_n hx hb dX2_isCoveredAt_34 rfl (lv_at hl 1 rfl) ?_
            refine lv_icmp_gt (tgt := 50) hx hb dX2_isCoveredAt_35 (by decide) (fun c_5 => ?_) (fun c_5 => ?_)
            · refine lv_iinc (v := nI (k9 + 1)) (lv' := [(2, .int (nI (k9 + 1))), (0, .ref (sa i)), (1, .int t)]) hx hb dX2_isCoveredAt_50 hl (k := 2) rfl (nI_incn _) (by decide) rfl (fun ls hl => ?_)
              refine lv_goto (tgt := 2) hx hb dX2_isCoveredAt_53 (by decide) ?_
              exact ih_1 (k9 + 1) ls (by omega) (by omega) (by show (clr L i t k9 && _) = true; rw [hcl, Bool.true_and, inR, decide_eq_true c_5]; rfl) (lv_sub hl [1, 2, 0] rfl)
            · refine lv_iload_n hx hb dX2_isCoveredAt_38 rfl (lv_at hl 1 rfl) ?_
              refine lv_aload_n hx hb dX2_isCoveredAt_39 rfl (lv_at hl 0 rfl) ?_
              refine x_get (T := TX2) (N := 8) (v := .ref (ta i)) hx hb hts in_X2 hown hK (hs.1) rfl 7 (by decide) k_f28 (fun _ h9 => h9) (rfl) dX2_isCoveredAt_40 ?_
              refine lv_iload_n hx hb dX2_isCoveredAt_43 rfl (lv_at hl 2 rfl) ?_
              refine x_ialdN hx hb hK (hs.2.2.1) (by omega) (by decide) dX2_isCoveredAt_44 ?_
              refine W.eq (g2 := F0 m 45 ls [.int (gL L i (5 + 2 * k9 + 1)), .int t]) (congrArg (fun z => F0 m 45 ls (.int z :: [.int t])) (hfu.2)) ?_
              refine lv_icmp_ge (tgt := 50) hx hb dX2_isCoveredAt_45 (by decide) (fun c_6 => ?_) (fun c_6 => ?_)
              · refine lv_iinc (v := nI (k9 + 1)) (lv' := [(2, .int (nI (k9 + 1))), (0, .ref (sa i)), (1, .int t)]) hx hb dX2_isCoveredAt_50 hl (k := 2) rfl (nI_incn _) (by decide) rfl (fun ls hl => ?_)
                refine lv_goto (tgt := 2) hx hb dX2_isCoveredAt_53 (by decide) ?_
                exact ih_1 (k9 + 1) ls (by omega) (by omega) (by show (clr L i t k9 && _) = true; rw [hcl, Bool.true_and, inR, decide_eq_true ((to1 hto).mpr c_6), Bool.not_true, Bool.and_false]; rfl) (lv_sub hl [1, 2, 0] rfl)
              · refine lv_iconst (v := nI 1) hx hb dX2_isCoveredAt_48 (by decide +kernel) ?_
                exact x_rdi hQ hx hb hr (by decide) hlk (congrArg Value.int (bI_o (by rw [clr_no (k := k9) (by rw [inR, decide_eq_false c_5, decide_eq_false (fun z => c_6 ((to1 hto).mp z))]; rfl) (nc L i) (by omega)]; rfl))) dX2_isCoveredAt_49
  exact loop_1 _ 0 ls (Nat.lt_succ_self _) (Nat.zero_le _) (rfl) (lv_sub hl [1, 2, 0] rfl)
abbrev rmX2_seesAt : Room := { frames := 1, cells := 0, slots := 0, locals := 22 }
theorem qdX2_seesAt : yX2_seesAt.cls = RX2 ∧ yX2_seesAt.cls ≠ "java/lang/invoke/MethodHandle" ∧ yX2_seesAt.cls ≠ "java/lang/invoke/VarHandle" ∧ (parseMethodDescriptor yX2_seesAt.desc).map (fun d => d.parameters.length) = some 1 := by decide +kernel
set_option maxHeartbeats 4000000 in
set_option maxRecDepth 100000 in
theorem c_X2_seesAt {l : Launch} {G : gT} {H : Heap} {L : Nat → Int32} {sa fa ta : Nat → Nat} {F U : Nat → Nat → Int32} {i : Nat} (hs : stP G L sa fa ta F U i H) (hS : okS L i) {t : Int32} : Rd G l yX2_seesAt wsX2_seesAt rmX2_seesAt [.ref (sa i), .int t] H (.int (bI (!decide (t = (-1)) && clr L i t (nc L i)))) := by
  refine x_head (bytes := cX2_seesAt) (maxL := 2) (ret := (some .boolean)) (by decide) rfl (Nat.le_of_ble_eq_true rfl) ?_
  intro p e s m below meth c ls hx hb hml hown hts hr hlk hnm hK hs0 hl Q hQ
  have hl : lv_has ls 2 [(0, .ref (sa i)), (1, .int t)] := hl
  have hC : CallFix p m c cX2_seesAt 2 s [.ref (sa i), .int t].toArray wsX2_seesAt RX2 := ⟨hx, hb, hml, hown, hts⟩
  refine lv_iload_n hx hb dX2_seesAt_0 rfl (lv_at hl 1 rfl) ?_
  refine lv_iconst (v := (-1)) hx hb dX2_seesAt_1 (by decide +kernel) ?_
  refine lv_icmp_eq (tgt := 17) hx hb dX2_seesAt_2 (by decide) (fun c_1 => ?_) (fun c_1 => ?_)
  · refine lv_iconst (v := nI 0) hx hb dX2_seesAt_17 (by decide +kernel) ?_
    exact x_rdi hQ hx hb hr (by decide) hlk (congrArg Value.int (bI_z (by rw [decide_eq_true c_1]; rfl))) dX2_seesAt_18
  · refine lv_aload_n hx hb dX2_seesAt_5 rfl (lv_at hl 0 rfl) ?_
    refine lv_iload_n hx hb dX2_seesAt_6 rfl (lv_at hl 1 rfl) ?_
    refine x_rd (va_runV (As := [.int t]) (rest := []) hC (c_X2_isCoveredAt (hs) (hS)) (cwV 1 hts gX2_seesAt_X2_isCoveredAt rfl rfl rfl qdX2_isCoveredAt ⟨Nat.le_of_ble_eq_true rfl, Nat.le_of_ble_eq_true rfl⟩) (x_preV hK (x_recv hK (hs.1) rfl)) rfl rfl hl.1 rfl (lv_room (Nat.le_of_ble_eq_true rfl)) dX2_seesAt_7 ⟨Nat.le_of_ble_eq_true rfl, Nat.le_of_ble_eq_true rfl⟩) ?_
    refine x_if_neB (tgt := 17) hx hb dX2_seesAt_10 (by decide) (fun c_2 => ?_) (fun c_2 => ?_)
    · refine lv_iconst (v := nI 0) hx hb dX2_seesAt_17 (by decide +kernel) ?_
      exact x_rdi hQ hx hb hr (by decide) hlk (congrArg Value.int (bI_z (by rw [Bool.not_eq_true'] at c_2; rw [c_2, Bool.and_false]))) dX2_seesAt_18
    · refine lv_iconst (v := nI 1) hx hb dX2_seesAt_13 (by decide +kernel) ?_
      refine lv_goto (tgt := 18) hx hb dX2_seesAt_14 (by decide) ?_
      exact x_rdi hQ hx hb hr (by decide) hlk (congrArg Value.int (bI_o (by rw [Bool.not_eq_false'] at c_2; rw [decide_eq_false c_1, c_2]; rfl))) dX2_seesAt_18
abbrev rmX2_sees : Room := { frames := 2, cells := 0, slots := 0, locals := 43 }
theorem qdX2_sees : yX2_sees.cls = RX2 ∧ yX2_sees.cls ≠ "java/lang/invoke/MethodHandle" ∧ yX2_sees.cls ≠ "java/lang/invoke/VarHandle" ∧ (parseMethodDescriptor yX2_sees.desc).map (fun d => d.parameters.length) = some 1 := by decide +kernel
set_option maxHeartbeats 4000000 in
set_option maxRecDepth 100000 in
theorem c_X2_sees {l : Launch} {G : gT} {H : Heap} {L : Nat → Int32} {sa fa ta : Nat → Nat} {F U : Nat → Nat → Int32} {i : Nat} (hs : stP G L sa fa ta F U i H) {T : Nat → Int32} {ha : Nat → Nat} {j : Nat} (hh : haP G T ha j H) (hS : okS L i) (hH : okH T j) : Rd G l yX2_sees wsX2_sees rmX2_sees [.ref (sa i), .ref (ha j)] H (.int (bI (see L T j i))) := by
  refine x_head (bytes := cX2_sees) (maxL := 2) (ret := (some .boolean)) (by decide) rfl (Nat.le_of_ble_eq_true rfl) ?_
  intro p e s m below meth c ls hx hb hml hown hts hr hlk hnm hK hs0 hl Q hQ
  have hl : lv_has ls 2 [(0, .ref (sa i)), (1, .ref (ha j))] := hl
  have hC : CallFix p m c cX2_sees 2 s [.ref (sa i), .ref (ha j)].toArray wsX2_sees RX2 := ⟨hx, hb, hml, hown, hts⟩
  have k_f15 := hts (.fieldLink RX2 15 "SundogLine$Station" "place" "I") (by decide +kernel)
  have in_X2 : ∀ w ∈ u_ws RX2 TX2 8, w ∈ wsX2_sees := by decide +kernel
  refine lv_aload_n hx hb dX2_sees_0 rfl (lv_at hl 0 rfl) ?_
  refine lv_aload_n hx hb dX2_sees_1 rfl (lv_at hl 1 rfl) ?_
  refine lv_aload_n hx hb dX2_sees_2 rfl (lv_at hl 0 rfl) ?_
  refine x_get (T := TX2) (N := 8) (v := .int (gL L i 0)) hx hb hts in_X2 hown hK (hs.1) rfl 1 (by decide) k_f15 (fun _ h9 => h9) (rfl) dX2_sees_3 ?_
  refine x_rd (va_runV (As := [.int (gL L i 0)]) (rest := [.ref (sa i)]) hC (c_X0_timeAt (hh) (hS) (hH)) (cwV 1 hts gX2_sees_X0_timeAt rfl rfl rfl qdX0_timeAt ⟨Nat.le_of_ble_eq_true rfl, Nat.le_of_ble_eq_true rfl⟩) (x_preV hK (x_recv hK (hh) rfl)) rfl rfl hl.1 rfl (lv_room (Nat.le_of_ble_eq_true rfl)) dX2_sees_6 ⟨Nat.le_of_ble_eq_true rfl, Nat.le_of_ble_eq_true rfl⟩) ?_
  refine x_rd (va_runV (As := [.int (cto L T j i)]) (rest := []) hC (c_X2_seesAt (hs) (hS)) (cwV 1 hts gX2_sees_X2_seesAt rfl rfl rfl qdX2_seesAt ⟨Nat.le_of_ble_eq_true rfl, Nat.le_of_ble_eq_true rfl⟩) (x_preV hK (x_recv hK (hs.1) rfl)) rfl rfl hl.1 rfl (lv_room (Nat.le_of_ble_eq_true rfl)) dX2_sees_9 ⟨Nat.le_of_ble_eq_true rfl, Nat.le_of_ble_eq_true rfl⟩) ?_
  exact x_rdi hQ hx hb hr (nbI _) hlk (rfl) dX2_sees_12
abbrev rmX2_readingOf : Room := { frames := 2, cells := 0, slots := 0, locals := 43 }
theorem qdX2_readingOf : yX2_readingOf.cls = RX2 ∧ yX2_readingOf.cls ≠ "java/lang/invoke/MethodHandle" ∧ yX2_readingOf.cls ≠ "java/lang/invoke/VarHandle" ∧ (parseMethodDescriptor yX2_readingOf.desc).map (fun d => d.parameters.length) = some 1 := by decide +kernel
set_option maxHeartbeats 4000000 in
set_option maxRecDepth 100000 in
theorem c_X2_readingOf {l : Launch} {G : gT} {H : Heap} {L : Nat → Int32} {sa fa ta : Nat → Nat} {F U : Nat → Nat → Int32} {i : Nat} (hs : stP G L sa fa ta F U i H) {T : Nat → Int32} {ha : Nat → Nat} {j : Nat} (hh : haP G T ha j H) (hS : okS L i) (hH : okH T j) : Rd G l yX2_readingOf wsX2_readingOf rmX2_readingOf [.ref (sa i), .ref (ha j)] H (.int (rdg L T j i)) := by
  refine x_head (bytes := cX2_readingOf) (maxL := 3) (ret := (some .int)) (by decide) rfl (Nat.le_of_ble_eq_true rfl) ?_
  intro p e s m below meth c ls hx hb hml hown hts hr hlk hnm hK hs0 hl Q hQ
  have hl : lv_has ls 3 [(0, .ref (sa i)), (1, .ref (ha j))] := hl
  have hC : CallFix p m c cX2_readingOf 3 s [.ref (sa i), .ref (ha j)].toArray wsX2_readingOf RX2 := ⟨hx, hb, hml, hown, hts⟩
  have k_f15 := hts (.fieldLink RX2 15 "SundogLine$Station" "place" "I") (by decide +kernel)
  have in_X2 : ∀ w ∈ u_ws RX2 TX2 8, w ∈ wsX2_readingOf := by decide +kernel
  have k_c56 := hts (.constant RX2 56 (-1000000)) (by decide +kernel)
  refine lv_aload_n hx hb dX2_readingOf_0 rfl (lv_at hl 1 rfl) ?_
  refine lv_aload_n hx hb dX2_readingOf_1 rfl (lv_at hl 0 rfl) ?_
  refine x_get (T := TX2) (N := 8) (v := .int (gL L i 0)) hx hb hts in_X2 hown hK (hs.1) rfl 1 (by decide) k_f15 (fun _ h9 => h9) (rfl) dX2_readingOf_2 ?_
  refine x_rd (va_runV (As := [.int (gL L i 0)]) (rest := []) hC (c_X0_timeAt (hh) (hS) (hH)) (cwV 1 hts gX2_readingOf_X0_timeAt rfl rfl rfl qdX0_timeAt ⟨Nat.le_of_ble_eq_true rfl, Nat.le_of_ble_eq_true rfl⟩) (x_preV hK (x_recv hK (hh) rfl)) rfl rfl hl.1 rfl (lv_room (Nat.le_of_ble_eq_true rfl)) dX2_readingOf_5 ⟨Nat.le_of_ble_eq_true rfl, Nat.le_of_ble_eq_true rfl⟩) ?_
  refine lv_istore_n (lv' := [(2, .int (cto L T j i)), (0, .ref (sa i)), (1, .ref (ha j))]) hx hb dX2_readingOf_8 rfl hl (by decide) rfl (fun ls hl => ?_)
  refine lv_aload_n hx hb dX2_readingOf_9 rfl (lv_at hl 1 rfl) ?_
  refine lv_iload_n hx hb dX2_readingOf_10 rfl (lv_at hl 0 rfl) ?_
  refine x_rd (va_runV (As := [.int (cto L T j i)]) (rest := []) hC (c_X2_seesAt (hs) (hS)) (cwV 1 hts gX2_readingOf_X2_seesAt rfl rfl rfl qdX2_seesAt ⟨Nat.le_of_ble_eq_true rfl, Nat.le_of_ble_eq_true rfl⟩) (x_preV hK (x_recv hK (hs.1) rfl)) rfl rfl hl.1 rfl (lv_room (Nat.le_of_ble_eq_true rfl)) dX2_readingOf_11 ⟨Nat.le_of_ble_eq_true rfl, Nat.le_of_ble_eq_true rfl⟩) ?_
  refine x_if_eqB (tgt := 25) hx hb dX2_readingOf_14 (by decide) (fun c_1 => ?_) (fun c_1 => ?_)
  · refine lv_ldc (v := (-1000000)) hx hb hown k_c56 dX2_readingOf_25 ?_
    exact x_rdi hQ hx hb hr rfl hlk (by simp only [rdg]; rw [if_neg (by rw [show see L T j i = false from c_1]; decide)]) dX2_readingOf_27
  · refine lv_aload_n hx hb dX2_readingOf_17 rfl (lv_at hl 1 rfl) ?_
    refine lv_iload_n hx hb dX2_readingOf_18 rfl (lv_at hl 0 rfl) ?_
    refine x_rd (va_runV (As := [.int (cto L T j i)]) (rest := []) hC (c_X2_readsAt (hs)) (cwV 1 hts gX2_readingOf_X2_readsAt rfl rfl rfl qdX2_readsAt ⟨Nat.le_of_ble_eq_true rfl, Nat.le_of_ble_eq_true rfl⟩) (x_preV hK (x_recv hK (hs.1) rfl)) rfl rfl hl.1 rfl (lv_room (Nat.le_of_ble_eq_true rfl)) dX2_readingOf_19 ⟨Nat.le_of_ble_eq_true rfl, Nat.le_of_ble_eq_true rfl⟩) ?_
    refine lv_goto (tgt := 27) hx hb dX2_readingOf_22 (by decide) ?_
    exact x_rdi hQ hx hb hr rfl hlk (by simp only [rdg]; rw [if_pos (show see L T j i = true from c_1)]) dX2_readingOf_27
