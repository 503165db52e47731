section XGETS
variable {p : Program} {l : Launch} {e : Env} {R : Room} {s : State} {m : MethodId} {args : Array Value} {below : List Frame} {meth : Method} {c : Code} {H : Heap} {locs : List Loc} {cells slots : Nat} {Q : State → Prop} {pc : Nat} {ls : Array Slot} {rest : List Value} {cc : ByteArray} {A : Nat → Prop} {H0 : Heap}
theorem x_gets (hexec : p.tables.exec = Jvm.exec) (hb : c.code = cc) {C n d own : String} {v : Value} {index : Nat} (hs0 : s.heap = H0) (hZ : va_Z C n d v A s H0) (hS : va_S A H0 H locs) (hown : s.vm.findClass own = some m.cls) (hlink : (Cond.fieldLink own index C n d).before args s = true) (hdg : decode cc pc = .ok (.getstatic index, 3))
    (kk : W p l e R s m args below meth c H locs cells slots Q (F0 m (pc + 3) ls (v :: rest))) : W p l e R s m args below meth c H locs cells slots Q (F0 m pc ls rest) := by
  subst hs0
  exact va_gets hexec hb hZ hS hown hlink (fun _ h9 => h9) hdg kk
end XGETS
abbrev rmJxa1e45_init_da8c8 : Room := { frames := 1, cells := 0, slots := 0, locals := 14 }
theorem qdJxa1e45_init_da8c8 : yJxa1e45_init_da8c8.cls ≠ "java/lang/invoke/MethodHandle" ∧ yJxa1e45_init_da8c8.cls ≠ "java/lang/invoke/VarHandle" ∧ (parseMethodDescriptor yJxa1e45_init_da8c8.desc).map (fun d => d.parameters.length) = some 0 := by decide +kernel
set_option maxHeartbeats 4000000 in
set_option maxRecDepth 100000 in
theorem c_Jxa1e45_init_da8c8 {l : Launch} {G : gT} {A : Nat → Prop} {a0 : Nat} {H0 : Heap} : WrV G l yJxa1e45_init_da8c8 wsJxa1e45_init_da8c8 rmJxa1e45_init_da8c8 [.ref a0] H0 A (fun H1 => H1 = H0) := by
  refine x_head (bytes := cJxa1e45_init_da8c8) (maxL := 1) (ret := none) (by decide) rfl (Nat.le_of_ble_eq_true rfl) ?_
  intro p e s m below meth c ls hx hb hml hown hts hr hlk hnm hK hs0 hl Q hQ
  have hl : lv_has ls 1 [(0, .ref a0)] := hl
  have hC : CallFix p m c cJxa1e45_init_da8c8 1 s [.ref a0].toArray wsJxa1e45_init_da8c8 RJxa1e45 := ⟨hx, hb, hml, hown, hts⟩
  have k_m1 := hts (.methodLink RJxa1e45 1 objectInit) (by decide +kernel)
  have k_oi := hts (.instanceMethod objectInit) (by decide +kernel)
  have k_oc := hts (.code objectInit ⟨#[0xb1]⟩ 1 none) (by decide +kernel)
  have hS : va_S A H0 H0 [] := va_S.rf
  refine lv_aload_n hx hb dJxa1e45_init_da8c8_0 rfl (lv_at hl 0 rfl) ?_
  refine W.objInit hx hb hown k_m1 k_oi k_oc rfl (by rw [hml]; exact hl.1) rfl dJxa1e45_init_da8c8_1 (Nat.le_of_ble_eq_true rfl) (Nat.le_of_ble_eq_true rfl) ?_
  refine W.eq (g2 := F0 m 4 ls []) rfl ?_
  exact x_vret hQ hx hb hr hlk hS.2.2 dJxa1e45_init_da8c8_4 (⟨hS.fr, rfl⟩)
abbrev rmJxc12de_init_da8c8 : Room := { frames := 2, cells := 0, slots := 0, locals := 34 }
theorem qdJxc12de_init_da8c8 : yJxc12de_init_da8c8.cls ≠ "java/lang/invoke/MethodHandle" ∧ yJxc12de_init_da8c8.cls ≠ "java/lang/invoke/VarHandle" ∧ (parseMethodDescriptor yJxc12de_init_da8c8.desc).map (fun d => d.parameters.length) = some 0 := by decide +kernel
set_option maxHeartbeats 4000000 in
set_option maxRecDepth 100000 in
theorem c_Jxc12de_init_da8c8 {l : Launch} {G : gT} {A : Nat → Prop} {a0 : Nat} {H0 : Heap}(hP : va_P (gD G) vC [(a0, .inr (5, [.int 0, .null, .int 0]))] H0) (hD : va_D A [(a0, .inr (5, [.int 0, .null, .int 0]))]) : WrV G l yJxc12de_init_da8c8 wsJxc12de_init_da8c8 rmJxc12de_init_da8c8 [.ref a0] H0 A (fun H1 => va_P (gD G) vC [(a0, .inr (5, [.int (nI 0), .null, .int 0]))] H1) := by
  refine x_head (bytes := cJxc12de_init_da8c8) (maxL := 1) (ret := none) (by decide) rfl (Nat.le_of_ble_eq_true rfl) ?_
  intro p e s m below meth c ls hx hb hml hown hts hr hlk hnm hK hs0 hl Q hQ
  have hl : lv_has ls 1 [(0, .ref a0)] := hl
  have hC : CallFix p m c cJxc12de_init_da8c8 1 s [.ref a0].toArray wsJxc12de_init_da8c8 RJxc12de := ⟨hx, hb, hml, hown, hts⟩
  have k_m1 := hts (.methodLink RJxc12de 1 yJxa1e45_init_da8c8) (by decide +kernel)
  have k_iJxa1e45_init_da8c8 := hts (.instanceMethod yJxa1e45_init_da8c8) (by decide +kernel)
  have k_nJxa1e45 := hts (.initialized RJxa1e45) (by decide +kernel)
  have k_f7 := hts (.fieldLink RJxc12de 7 "java/util/AbstractList" "modCount" "I") (by decide +kernel)
  have in_Jx4a65c : ∀ w ∈ u_ws RJx4a65c TJx4a65c 3, w ∈ wsJxc12de_init_da8c8 := by decide +kernel
  have hS : va_S A H0 H0 [] := va_S.rf
  refine lv_aload_n hx hb dJxc12de_init_da8c8_0 rfl (lv_at hl 0 rfl) ?_
  refine x_runv (va_runI (As := []) (rest := []) hC (c_Jxa1e45_init_da8c8 (A := A)) (cwI 0 hts gJxc12de_init_da8c8_Jxa1e45_init_da8c8 rfl rfl rfl k_nJxa1e45 k_m1 k_iJxa1e45_init_da8c8 rfl qdJxa1e45_init_da8c8 ⟨Nat.le_of_ble_eq_true rfl, Nat.le_of_ble_eq_true rfl⟩) (x_preS hK) rfl rfl hl.1 rfl (lv_room (Nat.le_of_ble_eq_true rfl)) dJxc12de_init_da8c8_1 ⟨Nat.le_of_ble_eq_true rfl, Nat.le_of_ble_eq_true rfl⟩) hS (fun _ h => h) (fun H locs hfr hΦ hS => ?_)
  rw [hΦ] at hS
  rw [hΦ]
  refine lv_aload_n hx hb dJxc12de_init_da8c8_4 rfl (lv_at hl 0 rfl) ?_
  refine lv_iconst (v := nI 0) hx hb dJxc12de_init_da8c8_5 (by decide +kernel) ?_
  refine va_put (D := gD G) (ci := 5) (v := .int (nI 0)) (ty := .int) (C := RJx4a65c) (T := TJx4a65c) (N := 3) hx hb hts in_Jx4a65c tyJx4a65c tyJx4a65c_ok nmJx4a65c hown hK hP hD hS 0 rfl rfl 0 (by decide) k_f7 (fun _ h9 => h9) rfl (by decide +kernel) rfl rfl (Nat.le_of_ble_eq_true rfl) dJxc12de_init_da8c8_6 (fun H locs hP hD hS => ?_)
  have hP : va_P (gD G) vC [(a0, .inr (5, [.int (nI 0), .null, .int 0]))] H := hP
  have hD : va_D A [(a0, .inr (5, [.int (nI 0), .null, .int 0]))] := hD
  exact x_vret hQ hx hb hr hlk hS.2.2 dJxc12de_init_da8c8_9 (⟨hS.fr, hP⟩)
abbrev rmJx4a65c_init_da8c8 : Room := { frames := 3, cells := 0, slots := 0, locals := 54 }
theorem qdJx4a65c_init_da8c8 : yJx4a65c_init_da8c8.cls ≠ "java/lang/invoke/MethodHandle" ∧ yJx4a65c_init_da8c8.cls ≠ "java/lang/invoke/VarHandle" ∧ (parseMethodDescriptor yJx4a65c_init_da8c8.desc).map (fun d => d.parameters.length) = some 0 := by decide +kernel
set_option maxHeartbeats 4000000 in
set_option maxRecDepth 100000 in
theorem c_Jx4a65c_init_da8c8 {l : Launch} {G : gT} {zA : Nat × Nat} {A : Nat → Prop} {a0 : Nat} {H0 : Heap}(hP : va_P (gD G) vC [(a0, .inr (5, [.int 0, .null, .int 0]))] H0) (hD : va_D A [(a0, .inr (5, [.int 0, .null, .int 0]))]) : WzV G zA l yJx4a65c_init_da8c8 wsJx4a65c_init_da8c8 rmJx4a65c_init_da8c8 [.ref a0] H0 A 0 0 (fun H1 => va_P (gD G) vC [(a0, alO 0 zA.1 0)] H1) := by
  refine x_headz (bytes := cJx4a65c_init_da8c8) (maxL := 1) (ret := none) (by decide) rfl (Nat.le_of_ble_eq_true rfl) ?_
  intro p e s m below meth c ls hx hb hml hown hts hr hlk hnm hK hs0 hl Q hQ hZ
  have hl : lv_has ls 1 [(0, .ref a0)] := hl
  have hC : CallFix p m c cJx4a65c_init_da8c8 1 s [.ref a0].toArray wsJx4a65c_init_da8c8 RJx4a65c := ⟨hx, hb, hml, hown, hts⟩
  have k_m1 := hts (.methodLink RJx4a65c 1 yJxc12de_init_da8c8) (by decide +kernel)
  have k_iJxc12de_init_da8c8 := hts (.instanceMethod yJxc12de_init_da8c8) (by decide +kernel)
  have k_nJxc12de := hts (.initialized RJxc12de) (by decide +kernel)
  have k_f39 := hts (.fieldLink RJx4a65c 39 "java/util/ArrayList" "DEFAULTCAPACITY_EMPTY_ELEMENTDATA" "[Ljava/lang/Object;") (by decide +kernel)
  have k_f9 := hts (.fieldLink RJx4a65c 9 "java/util/ArrayList" "elementData" "[Ljava/lang/Object;") (by decide +kernel)
  have in_Jx4a65c : ∀ w ∈ u_ws RJx4a65c TJx4a65c 3, w ∈ wsJx4a65c_init_da8c8 := by decide +kernel
  have hN := hZ.nn
  have hS : va_S A H0 H0 [] := va_S.rf
  refine lv_aload_n hx hb dJx4a65c_init_da8c8_0 rfl (lv_at hl 0 rfl) ?_
  refine x_runv (va_runI (As := []) (rest := []) hC (c_Jxc12de_init_da8c8 hP hD) (cwI 0 hts gJx4a65c_init_da8c8_Jxc12de_init_da8c8 rfl rfl rfl k_nJxc12de k_m1 k_iJxc12de_init_da8c8 rfl qdJxc12de_init_da8c8 ⟨Nat.le_of_ble_eq_true rfl, Nat.le_of_ble_eq_true rfl⟩) (x_preS hK) rfl rfl hl.1 rfl (lv_room (Nat.le_of_ble_eq_true rfl)) dJx4a65c_init_da8c8_1 ⟨Nat.le_of_ble_eq_true rfl, Nat.le_of_ble_eq_true rfl⟩) hS (fun _ h => h) (fun H locs hfr hP hS => ?_)
  have hD : va_D A [(a0, .inr (5, [.int (nI 0), .null, .int 0]))] := hD.same rfl
  refine lv_aload_n hx hb dJx4a65c_init_da8c8_4 rfl (lv_at hl 0 rfl) ?_
  refine x_gets hx hb hs0 hZ.1.1 hS hown k_f39 dJx4a65c_init_da8c8_5 ?_
  refine va_put (D := gD G) (ci := 5) (v := .ref zA.1) (ty := (.array (.object "java/lang/Object"))) (C := RJx4a65c) (T := TJx4a65c) (N := 3) hx hb hts in_Jx4a65c tyJx4a65c tyJx4a65c_ok nmJx4a65c hown hK hP hD hS 0 rfl rfl 1 (by decide) k_f9 (fun _ h9 => h9) rfl (by decide +kernel) rfl rfl (Nat.le_of_ble_eq_true rfl) dJx4a65c_init_da8c8_8 (fun H locs hP hD hS => ?_)
  have hP : va_P (gD G) vC [(a0, .inr (5, [.int (nI 0), .ref zA.1, .int 0]))] H := hP
  have hD : va_D A [(a0, .inr (5, [.int (nI 0), .ref zA.1, .int 0]))] := hD
  exact x_vret hQ hx hb hr hlk hS.2.2 dJx4a65c_init_da8c8_11 (⟨hS.fr, hP⟩)
abbrev rmX0_init : Room := { frames := 1, cells := 0, slots := 0, locals := 14 }
theorem qdX0_init : yX0_init.cls ≠ "java/lang/invoke/MethodHandle" ∧ yX0_init.cls ≠ "java/lang/invoke/VarHandle" ∧ (parseMethodDescriptor yX0_init.desc).map (fun d => d.parameters.length) = some 4 := by decide +kernel
set_option maxHeartbeats 4000000 in
set_option maxRecDepth 100000 in
theorem c_X0_init {l : Launch} {G : gT} {A : Nat → Prop} {a0 : Nat} {H0 : Heap} {x1 x2 x3 x4 : Int32} (hP : va_P (gD G) vC [(a0, .inr (0, [.int 0, .int 0, .int 0, .int 0]))] H0) (hD : va_D A [(a0, .inr (0, [.int 0, .int 0, .int 0, .int 0]))]) : WrV G l yX0_init wsX0_init rmX0_init [.ref a0, .int x1, .int x2, .int x3, .int x4] H0 A (fun H1 => va_P (gD G) vC [(a0, .inr (0, [.int x1, .int x2, .int x3, .int x4]))] H1) := by
  refine x_head (bytes := cX0_init) (maxL := 5) (ret := none) (by decide) rfl (Nat.le_of_ble_eq_true rfl) ?_
  intro p e s m below meth c ls hx hb hml hown hts hr hlk hnm hK hs0 hl Q hQ
  have hl : lv_has ls 5 [(0, .ref a0), (1, .int x1), (2, .int x2), (3, .int x3), (4, .int x4)] := hl
  have hC : CallFix p m c cX0_init 5 s [.ref a0, .int x1, .int x2, .int x3, .int x4].toArray wsX0_init RX0 := ⟨hx, hb, hml, hown, hts⟩
  have k_m3 := hts (.methodLink RX0 3 objectInit) (by decide +kernel)
  have k_oi := hts (.instanceMethod objectInit) (by decide +kernel)
  have k_oc := hts (.code objectInit ⟨#[0xb1]⟩ 1 none) (by decide +kernel)
  have k_f9 := hts (.fieldLink RX0 9 "SundogLine$Halo" "begin" "I") (by decide +kernel)
  have in_X0 : ∀ w ∈ u_ws RX0 TX0 4, w ∈ wsX0_init := by decide +kernel
  have k_f15 := hts (.fieldLink RX0 15 "SundogLine$Halo" "place" "I") (by decide +kernel)
  have k_f18 := hts (.fieldLink RX0 18 "SundogLine$Halo" "speed" "I") (by decide +kernel)
  have k_f21 := hts (.fieldLink RX0 21 "SundogLine$Halo" "direction" "I") (by decide +kernel)
  have hS : va_S A H0 H0 [] := va_S.rf
  refine lv_aload_n hx hb dX0_init_0 rfl (lv_at hl 0 rfl) ?_
  refine W.objInit hx hb hown k_m3 k_oi k_oc rfl (by rw [hml]; exact hl.1) rfl dX0_init_1 (Nat.le_of_ble_eq_true rfl) (Nat.le_of_ble_eq_true rfl) ?_
  refine W.eq (g2 := F0 m 4 ls []) rfl ?_
  refine lv_aload_n hx hb dX0_init_4 rfl (lv_at hl 0 rfl) ?_
  refine lv_iload_n hx hb dX0_init_5 rfl (lv_at hl 1 rfl) ?_
  refine va_putF (D := gD G) (ci := 0) (v := .int x1) (ty := .int) (C := RX0) (T := TX0) (N := 4) hx hb hts in_X0 tyX0 tyX0_ok nmX0 hown hK hP hD hS 0 rfl rfl 0 (by decide) k_f9 (fun _ h9 => h9) rfl hnm rfl (by decide +kernel) rfl rfl (Nat.le_of_ble_eq_true rfl) dX0_init_6 (fun H locs hP hD hS => ?_)
  have hP : va_P (gD G) vC [(a0, .inr (0, [.int x1, .int 0, .int 0, .int 0]))] H := hP
  have hD : va_D A [(a0, .inr (0, [.int x1, .int 0, .int 0, .int 0]))] := hD
  refine lv_aload_n hx hb dX0_init_9 rfl (lv_at hl 0 rfl) ?_
  refine lv_iload_n hx hb dX0_init_10 rfl (lv_at hl 2 rfl) ?_
  refine va_putF (D := gD G) (ci := 0) (v := .int x2) (ty := .int) (C := RX0) (T := TX0) (N := 4) hx hb hts in_X0 tyX0 tyX0_ok nmX0 hown hK hP hD hS 0 rfl rfl 1 (by decide) k_f15 (fun _ h9 => h9) rfl hnm rfl (by decide +kernel) rfl rfl (Nat.le_of_ble_eq_true rfl) dX0_init_11 (fun H locs hP hD hS => ?_)
  have hP : va_P (gD G) vC [(a0, .inr (0, [.int x1, .int x2, .int 0, .int 0]))] H := hP
  have hD : va_D A [(a0, .inr (0, [.int x1, .int x2, .int 0, .int 0]))] := hD
  refine lv_aload_n hx hb dX0_init_14 rfl (lv_at hl 0 rfl) ?_
  refine lv_iload_n hx hb dX0_init_15 rfl (lv_at hl 3 rfl) ?_
  refine va_putF (D := gD G) (ci := 0) (v := .int x3) (ty := .int) (C := RX0) (T := TX0) (N := 4) hx hb hts in_X0 tyX0 tyX0_ok nmX0 hown hK hP hD hS 0 rfl rfl 2 (by decide) k_f18 (fun _ h9 => h9) rfl hnm rfl (by decide +kernel) rfl rfl (Nat.le_of_ble_eq_true rfl) dX0_init_16 (fun H locs hP hD hS => ?_)
  have hP : va_P (gD G) vC [(a0, .inr (0, [.int x1, .int x2, .int x3, .int 0]))] H := hP
  have hD : va_D A [(a0, .inr (0, [.int x1, .int x2, .int x3, .int 0]))] := hD
  refine lv_aload_n hx hb dX0_init_19 rfl (lv_at hl 0 rfl) ?_
  refine lv_iload hx hb dX0_init_20 (lv_at hl 4 rfl) ?_
  refine va_putF (D := gD G) (ci := 0) (v := .int x4) (ty := .int) (C := RX0) (T := TX0) (N := 4) hx hb hts in_X0 tyX0 tyX0_ok nmX0 hown hK hP hD hS 0 rfl rfl 3 (by decide) k_f21 (fun _ h9 => h9) rfl hnm rfl (by decide +kernel) rfl rfl (Nat.le_of_ble_eq_true rfl) dX0_init_22 (fun H locs hP hD hS => ?_)
  have hP : va_P (gD G) vC [(a0, .inr (0, [.int x1, .int x2, .int x3, .int x4]))] H := hP
  have hD : va_D A [(a0, .inr (0, [.int x1, .int x2, .int x3, .int x4]))] := hD
  exact x_vret hQ hx hb hr hlk hS.2.2 dX0_init_25 (⟨hS.fr, hP⟩)
abbrev rmX2_init : Room := { frames := 1, cells := 2, slots := 8, locals := 14 }
theorem qdX2_init : yX2_init.cls ≠ "java/lang/invoke/MethodHandle" ∧ yX2_init.cls ≠ "java/lang/invoke/VarHandle" ∧ (parseMethodDescriptor yX2_init.desc).map (fun d => d.parameters.length) = some 4 := by decide +kernel
set_option maxHeartbeats 4000000 in
set_option maxRecDepth 100000 in
theorem c_X2_init {l : Launch} {G : gT} {A : Nat → Prop} {a0 : Nat} {H0 : Heap} {i : Nat} {x1 x2 x3 : Int32} (hP : va_P (gD G) vC [(a0, .inr (2, [.int 0, .int 0, .int 0, .int 0, .int 0, .int 0, .null, .null]))] H0) (hD : va_D A [(a0, .inr (2, [.int 0, .int 0, .int 0, .int 0, .int 0, .int 0, .null, .null]))]) (hA : ∀ q, H0.size ≤ q → A q) : WrVm G l yX2_init wsX2_init rmX2_init [.ref a0, .int (nI i), .int x1, .int x2, .int x3] H0 A 2 8 (fun H1 => ∃ f9 u9 : Nat, va_P (gD G) vC [(a0, .inr (2, [.int (nI i), .int x1, .int x2, .int x3, .int 0, .int 0, .ref f9, .ref u9])), (f9, eI G 4 (fun _ => 0)), (u9, eI G 4 (fun _ => 0))] H1 ∧ va_D A [(a0, .inr (2, [.int (nI i), .int x1, .int x2, .int x3, .int 0, .int 0, .ref f9, .ref u9])), (f9, eI G 4 (fun _ => 0)), (u9, eI G 4 (fun _ => 0))]) := by
  refine x_head (bytes := cX2_init) (maxL := 5) (ret := none) (by decide) rfl (Nat.le_of_ble_eq_true rfl) ?_
  intro p e s m below meth c ls hx hb hml hown hts hr hlk hnm hK hs0 hl Q hQ
  have hl : lv_has ls 5 [(0, .ref a0), (1, .int (nI i)), (2, .int x1), (3, .int x2), (4, .int x3)] := hl
  have hC : CallFix p m c cX2_init 5 s [.ref a0, .int (nI i), .int x1, .int x2, .int x3].toArray wsX2_init RX2 := ⟨hx, hb, hml, hown, hts⟩
  have k_m3 := hts (.methodLink RX2 3 objectInit) (by decide +kernel)
  have k_oi := hts (.instanceMethod objectInit) (by decide +kernel)
  have k_oc := hts (.code objectInit ⟨#[0xb1]⟩ 1 none) (by decide +kernel)
  have k_f9 := hts (.fieldLink RX2 9 "SundogLine$Station" "number" "I") (by decide +kernel)
  have in_X2 : ∀ w ∈ u_ws RX2 TX2 8, w ∈ wsX2_init := by decide +kernel
  have k_f15 := hts (.fieldLink RX2 15 "SundogLine$Station" "place" "I") (by decide +kernel)
  have k_f18 := hts (.fieldLink RX2 18 "SundogLine$Station" "offset" "I") (by decide +kernel)
  have k_f21 := hts (.fieldLink RX2 21 "SundogLine$Station" "drift" "I") (by decide +kernel)
  have k_arr := hts (.arrayClass .int) (by decide +kernel)
  have k_f24 := hts (.fieldLink RX2 24 "SundogLine$Station" "cloudFrom" "[I") (by decide +kernel)
  have k_f28 := hts (.fieldLink RX2 28 "SundogLine$Station" "cloudTo" "[I") (by decide +kernel)
  have hS : va_S A H0 H0 [] := va_S.rf
  refine lv_aload_n hx hb dX2_init_0 rfl (lv_at hl 0 rfl) ?_
  refine W.objInit hx hb hown k_m3 k_oi k_oc rfl (by rw [hml]; exact hl.1) rfl dX2_init_1 (Nat.le_of_ble_eq_true rfl) (Nat.le_of_ble_eq_true rfl) ?_
  refine W.eq (g2 := F0 m 4 ls []) rfl ?_
  refine lv_aload_n hx hb dX2_init_4 rfl (lv_at hl 0 rfl) ?_
  refine lv_iload_n hx hb dX2_init_5 rfl (lv_at hl 1 rfl) ?_
  refine va_putF (D := gD G) (ci := 2) (v := .int (nI i)) (ty := .int) (C := RX2) (T := TX2) (N := 8) hx hb hts in_X2 tyX2 tyX2_ok nmX2 hown hK hP hD hS 0 rfl rfl 0 (by decide) k_f9 (fun _ h9 => h9) rfl hnm rfl (by decide +kernel) rfl rfl (Nat.le_of_ble_eq_true rfl) dX2_init_6 (fun H locs hP hD hS => ?_)
  have hP : va_P (gD G) vC [(a0, .inr (2, [.int (nI i), .int 0, .int 0, .int 0, .int 0, .int 0, .null, .null]))] H := hP
  have hD : va_D A [(a0, .inr (2, [.int (nI i), .int 0, .int 0, .int 0, .int 0, .int 0, .null, .null]))] := hD
  refine lv_aload_n hx hb dX2_init_9 rfl (lv_at hl 0 rfl) ?_
  refine lv_iload_n hx hb dX2_init_10 rfl (lv_at hl 2 rfl) ?_
  refine va_putF (D := gD G) (ci := 2) (v := .int x1) (ty := .int) (C := RX2) (T := TX2) (N := 8) hx hb hts in_X2 tyX2 tyX2_ok nmX2 hown hK hP hD hS 0 rfl rfl 1 (by decide) k_f15 (fun _ h9 => h9) rfl hnm rfl (by decide +kernel) rfl rfl (Nat.le_of_ble_eq_true rfl) dX2_init_11 (fun H locs hP hD hS => ?_)
  have hP : va_P (gD G) vC [(a0, .inr (2, [.int (nI i), .int x1, .int 0, .int 0, .int 0, .int 0, .null, .null]))] H := hP
  have hD : va_D A [(a0, .inr (2, [.int (nI i), .int x1, .int 0, .int 0, .int 0, .int 0, .null, .null]))] := hD
  refine lv_aload_n hx hb dX2_init_14 rfl (lv_at hl 0 rfl) ?_
  refine lv_iload_n hx hb dX2_init_15 rfl (lv_at hl 3 rfl) ?_
  refine va_putF (D := gD G) (ci := 2) (v := .int x2) (ty := .int) (C := RX2) (T := TX2) (N := 8) hx hb hts in_X2 tyX2 tyX2_ok nmX2 hown hK hP hD hS 0 rfl rfl 2 (by decide) k_f18 (fun _ h9 => h9) rfl hnm rfl (by decide +kernel) rfl rfl (Nat.le_of_ble_eq_true rfl) dX2_init_16 (fun H locs hP hD hS => ?_)
  have hP : va_P (gD G) vC [(a0, .inr (2, [.int (nI i), .int x1, .int x2, .int 0, .int 0, .int 0, .null, .null]))] H := hP
  have hD : va_D A [(a0, .inr (2, [.int (nI i), .int x1, .int x2, .int 0, .int 0, .int 0, .null, .null]))] := hD
  refine lv_aload_n hx hb dX2_init_19 rfl (lv_at hl 0 rfl) ?_
  refine lv_iload hx hb dX2_init_20 (lv_at hl 4 rfl) ?_
  refine va_putF (D := gD G) (ci := 2) (v := .int x3) (ty := .int) (C := RX2) (T := TX2) (N := 8) hx hb hts in_X2 tyX2 tyX2_ok nmX2 hown hK hP hD hS 0 rfl rfl 3 (by decide) k_f21 (fun _ h9 => h9) rfl hnm rfl (by decide +kernel) rfl rfl (Nat.le_of_ble_eq_true rfl) dX2_init_22 (fun H locs hP hD hS => ?_)
  have hP : va_P (gD G) vC [(a0, .inr (2, [.int (nI i), .int x1, .int x2, .int x3, .int 0, .int 0, .null, .null]))] H := hP
  have hD : va_D A [(a0, .inr (2, [.int (nI i), .int x1, .int x2, .int x3, .int 0, .int 0, .null, .null]))] := hD
  refine lv_aload_n hx hb dX2_init_25 rfl (lv_at hl 0 rfl) ?_
  refine lv_iconst (v := nI 4) hx hb dX2_init_26 (by decide +kernel) ?_
  refine x_newI (N := 4) hx hb k_arr hK hP hD hS hA (by decide) (by decide) (Nat.le_of_ble_eq_true rfl) (Nat.le_of_ble_eq_true rfl) dX2_init_27 (fun q_1 H hP hD hS => ?_)
  have hP : va_P (gD G) vC [(a0, .inr (2, [.int (nI i), .int x1, .int x2, .int x3, .int 0, .int 0, .null, .null])), (q_1, eI G 4 (fun _ => 0))] H := hP
  have hD : va_D A [(a0, .inr (2, [.int (nI i), .int x1, .int x2, .int x3, .int 0, .int 0, .null, .null])), (q_1, eI G 4 (fun _ => 0))] := hD
  refine va_putF (D := gD G) (ci := 2) (v := .ref q_1) (ty := (.array .int)) (C := RX2) (T := TX2) (N := 8) hx hb hts in_X2 tyX2 tyX2_ok nmX2 hown hK hP hD hS 0 rfl rfl 6 (by decide) k_f24 (fun _ h9 => h9) rfl hnm rfl (by decide +kernel) rfl rfl (Nat.le_of_ble_eq_true rfl) dX2_init_29 (fun H locs hP hD hS => ?_)
  have hP : va_P (gD G) vC [(a0, .inr (2, [.int (nI i), .int x1, .int x2, .int x3, .int 0, .int 0, .ref q_1, .null])), (q_1, eI G 4 (fun _ => 0))] H := hP
  have hD : va_D A [(a0, .inr (2, [.int (nI i), .int x1, .int x2, .int x3, .int 0, .int 0, .ref q_1, .null])), (q_1, eI G 4 (fun _ => 0))] := hD
  refine lv_aload_n hx hb dX2_init_32 rfl (lv_at hl 0 rfl) ?_
  refine lv_iconst (v := nI 4) hx hb dX2_init_33 (by decide +kernel) ?_
  refine x_newI (N := 4) hx hb k_arr hK hP hD hS hA (by decide) (by decide) (Nat.le_of_ble_eq_true rfl) (Nat.le_of_ble_eq_true rfl) dX2_init_34 (fun q_2 H hP hD hS => ?_)
  have hP : va_P (gD G) vC [(a0, .inr (2, [.int (nI i), .int x1, .int x2, .int x3, .int 0, .int 0, .ref q_1, .null])), (q_1, eI G 4 (fun _ => 0)), (q_2, eI G 4 (fun _ => 0))] H := hP
  have hD : va_D A [(a0, .inr (2, [.int (nI i), .int x1, .int x2, .int x3, .int 0, .int 0, .ref q_1, .null])), (q_1, eI G 4 (fun _ => 0)), (q_2, eI G 4 (fun _ => 0))] := hD
  refine va_putF (D := gD G) (ci := 2) (v := .ref q_2) (ty := (.array .int)) (C := RX2) (T := TX2) (N := 8) hx hb hts in_X2 tyX2 tyX2_ok nmX2 hown hK hP hD hS 0 rfl rfl 7 (by decide) k_f28 (fun _ h9 => h9) rfl hnm rfl (by decide +kernel) rfl rfl (Nat.le_of_ble_eq_true rfl) dX2_init_36 (fun H locs hP hD hS => ?_)
  have hP : va_P (gD G) vC [(a0, .inr (2, [.int (nI i), .int x1, .int x2, .int x3, .int 0, .int 0, .ref q_1, .ref q_2])), (q_1, eI G 4 (fun _ => 0)), (q_2, eI G 4 (fun _ => 0))] H := hP
  have hD : va_D A [(a0, .inr (2, [.int (nI i), .int x1, .int x2, .int x3, .int 0, .int 0, .ref q_1, .ref q_2])), (q_1, eI G 4 (fun _ => 0)), (q_2, eI G 4 (fun _ => 0))] := hD
  exact x_vret hQ hx hb hr hlk hS.2.2 dX2_init_39 ⟨hS.fr, q_1, q_2, hP, hD⟩
abbrev rmX1_init : Room := { frames := 1, cells := 6, slots := 126, locals := 14 }
theorem qdX1_init : yX1_init.cls ≠ "java/lang/invoke/MethodHandle" ∧ yX1_init.cls ≠ "java/lang/invoke/VarHandle" ∧ (parseMethodDescriptor yX1_init.desc).map (fun d => d.parameters.length) = some 0 := by decide +kernel
set_option maxHeartbeats 4000000 in
set_option maxRecDepth 100000 in
theorem c_X1_init {l : Launch} {G : gT} {A : Nat → Prop} {a0 : Nat} {H0 : Heap} (hP : va_P (gD G) vC [(a0, .inr (1, [.int 0, .int 0, .int 0, .int 0, .int 0, .null, .null, .null, .null, .null, .null]))] H0) (hD : va_D A [(a0, .inr (1, [.int 0, .int 0, .int 0, .int 0, .int 0, .null, .null, .null, .null, .null, .null]))]) (hA : ∀ q, H0.size ≤ q → A q) : WrVm G l yX1_init wsX1_init rmX1_init [.ref a0] H0 A 6 126 (fun H1 => ∃ rb : Nat → Nat, rb 0 = a0 ∧ rP G rb (fun _ => 0) (fun _ _ => 0) H1 ∧ va_D A (rW G rb (fun _ => 0) (fun _ _ => 0))) := by
  refine x_head (bytes := cX1_init) (maxL := 1) (ret := none) (by decide) rfl (Nat.le_of_ble_eq_true rfl) ?_
  intro p e s m below meth c ls hx hb hml hown hts hr hlk hnm hK hs0 hl Q hQ
  have hl : lv_has ls 1 [(0, .ref a0)] := hl
  have hC : CallFix p m c cX1_init 1 s [.ref a0].toArray wsX1_init RX1 := ⟨hx, hb, hml, hown, hts⟩
  have k_m3 := hts (.methodLink RX1 3 objectInit) (by decide +kernel)
  have k_oi := hts (.instanceMethod objectInit) (by decide +kernel)
  have k_oc := hts (.code objectInit ⟨#[0xb1]⟩ 1 none) (by decide +kernel)
  have k_arr := hts (.arrayClass .int) (by decide +kernel)
  have k_f9 := hts (.fieldLink RX1 9 "SundogLine$Reckoning" "numbers" "[I") (by decide +kernel)
  have in_X1 : ∀ w ∈ u_ws RX1 TX1 11, w ∈ wsX1_init := by decide +kernel
  have k_f15 := hts (.fieldLink RX1 15 "SundogLine$Reckoning" "places" "[I") (by decide +kernel)
  have k_f18 := hts (.fieldLink RX1 18 "SundogLine$Reckoning" "readings" "[I") (by decide +kernel)
  have k_f21 := hts (.fieldLink RX1 21 "SundogLine$Reckoning" "left" "[I") (by decide +kernel)
  have k_f24 := hts (.fieldLink RX1 24 "SundogLine$Reckoning" "work" "[I") (by decide +kernel)
  have k_f27 := hts (.fieldLink RX1 27 "SundogLine$Reckoning" "slopes" "[I") (by decide +kernel)
  have hS : va_S A H0 H0 [] := va_S.rf
  refine lv_aload_n hx hb dX1_init_0 rfl (lv_at hl 0 rfl) ?_
  refine W.objInit hx hb hown k_m3 k_oi k_oc rfl (by rw [hml]; exact hl.1) rfl dX1_init_1 (Nat.le_of_ble_eq_true rfl) (Nat.le_of_ble_eq_true rfl) ?_
  refine W.eq (g2 := F0 m 4 ls []) rfl ?_
  refine lv_aload_n hx hb dX1_init_4 rfl (lv_at hl 0 rfl) ?_
  refine lv_bipush (v := nI 12) hx hb dX1_init_5 (by decide +kernel) ?_
  refine x_newI (N := 12) hx hb k_arr hK hP hD hS hA (by decide) (by decide) (Nat.le_of_ble_eq_true rfl) (Nat.le_of_ble_eq_true rfl) dX1_init_7 (fun q_1 H hP hD hS => ?_)
  have hP : va_P (gD G) vC [(a0, .inr (1, [.int 0, .int 0, .int 0, .int 0, .int 0, .null, .null, .null, .null, .null, .null])), (q_1, eI G 12 (fun _ => 0))] H := hP
  have hD : va_D A [(a0, .inr (1, [.int 0, .int 0, .int 0, .int 0, .int 0, .null, .null, .null, .null, .null, .null])), (q_1, eI G 12 (fun _ => 0))] := hD
  refine va_putF (D := gD G) (ci := 1) (v := .ref q_1) (ty := (.array .int)) (C := RX1) (T := TX1) (N := 11) hx hb hts in_X1 tyX1 tyX1_ok nmX1 hown hK hP hD hS 0 rfl rfl 5 (by decide) k_f9 (fun _ h9 => h9) rfl hnm rfl (by decide +kernel) rfl rfl (Nat.le_of_ble_eq_true rfl) dX1_init_9 (fun H locs hP hD hS => ?_)
  have hP : va_P (gD G) vC [(a0, .inr (1, [.int 0, .int 0, .int 0, .int 0, .int 0, .ref q_1, .null, .null, .null, .null, .null])), (q_1, eI G 12 (fun _ => 0))] H := hP
  have hD : va_D A [(a0, .inr (1, [.int 0, .int 0, .int 0, .int 0, .int 0, .ref q_1, .null, .null, .null, .null, .null])), (q_1, eI G 12 (fun _ => 0))] := hD
  refine lv_aload_n hx hb dX1_init_12 rfl (lv_at hl 0 rfl) ?_
  refine lv_bipush (v := nI 12) hx hb dX1_init_13 (by decide +kernel) ?_
  refine x_newI (N := 12) hx hb k_arr hK hP hD hS hA (by decide) (by decide) (Nat.le_of_ble_eq_true rfl) (Nat.le_of_ble_eq_true rfl) dX1_init_15 (fun q_2 H hP hD hS => ?_)
  have hP : va_P (gD G) vC [(a0, .inr (1, [.int 0, .int 0, .int 0, .int 0, .int 0, .ref q_1, .null, .null, .null, .null, .null])), (q_1, eI G 12 (fun _ => 0)), (q_2, eI G 12 (fun _ => 0))] H := hP
  have hD : va_D A [(a0, .inr (1, [.int 0, .int 0, .int 0, .int 0, .int 0, .ref q_1, .null, .null, .null, .null, .null])), (q_1, eI G 12 (fun _ => 0)), (q_2, eI G 12 (fun _ => 0))] := hD
  refine va_putF (D := gD G) (ci := 1) (v := .ref q_2) (ty := (.array .int)) (C := RX1) (T := TX1) (N := 11) hx hb hts in_X1 tyX1 tyX1_ok nmX1 hown hK hP hD hS 0 rfl rfl 6 (by decide) k_f15 (fun _ h9 => h9) rfl hnm rfl (by decide +kernel) rfl rfl (Nat.le_of_ble_eq_true rfl) dX1_init_17 (fun H locs hP hD hS => ?_)
  have hP : va_P (gD G) vC [(a0, .inr (1, [.int 0, .int 0, .int 0, .int 0, .int 0, .ref q_1, .ref q_2, .null, .null, .null, .null])), (q_1, eI G 12 (fun _ => 0)), (q_2, eI G 12 (fun _ => 0))] H := hP
  have hD : va_D A [(a0, .inr (1, [.int 0, .int 0, .int 0, .int 0, .int 0, .ref q_1, .ref q_2, .null, .null, .null, .null])), (q_1, eI G 12 (fun _ => 0)), (q_2, eI G 12 (fun _ => 0))] := hD
  refine lv_aload_n hx hb dX1_init_20 rfl (lv_at hl 0 rfl) ?_
  refine lv_bipush (v := nI 12) hx hb dX1_init_21 (by decide +kernel) ?_
  refine x_newI (N := 12) hx hb k_arr hK hP hD hS hA (by decide) (by decide) (Nat.le_of_ble_eq_true rfl) (Nat.le_of_ble_eq_true rfl) dX1_init_23 (fun q_3 H hP hD hS => ?_)
  have hP : va_P (gD G) vC [(a0, .inr (1, [.int 0, .int 0, .int 0, .int 0, .int 0, .ref q_1, .ref q_2, .null, .null, .null, .null])), (q_1, eI G 12 (fun _ => 0)), (q_2, eI G 12 (fun _ => 0)), (q_3, eI G 12 (fun _ => 0))] H := hP
  have hD : va_D A [(a0, .inr (1, [.int 0, .int 0, .int 0, .int 0, .int 0, .ref q_1, .ref q_2, .null, .null, .null, .null])), (q_1, eI G 12 (fun _ => 0)), (q_2, eI G 12 (fun _ => 0)), (q_3, eI G 12 (fun _ => 0))] := hD
  refine va_putF (D := gD G) (ci := 1) (v := .ref q_3) (ty := (.array .int)) (C := RX1) (T := TX1) (N := 11) hx hb hts in_X1 tyX1 tyX1_ok nmX1 hown hK hP hD hS 0 rfl rfl 7 (by decide) k_f18 (fun _ h9 => h9) rfl hnm rfl (by decide +kernel) rfl rfl (Nat.le_of_ble_eq_true rfl) dX1_init_25 (fun H locs hP hD hS => ?_)
  have hP : va_P (gD G) vC [(a0, .inr (1, [.int 0, .int 0, .int 0, .int 0, .int 0, .ref q_1, .ref q_2, .ref q_3, .null, .null, .null])), (q_1, eI G 12 (fun _ => 0)), (q_2, eI G 12 (fun _ => 0)), (q_3, eI G 12 (fun _ => 0))] H := hP
  have hD : va_D A [(a0, .inr (1, [.int 0, .int 0, .int 0, .int 0, .int 0, .ref q_1, .ref q_2, .ref q_3, .null, .null, .null])), (q_1, eI G 12 (fun _ => 0)), (q_2, eI G 12 (fun _ => 0)), (q_3, eI G 12 (fun _ => 0))] := hD
  refine lv_aload_n hx hb dX1_init_28 rfl (lv_at hl 0 rfl) ?_
  refine lv_bipush (v := nI 12) hx hb dX1_init_29 (by decide +kernel) ?_
  refine x_newI (N := 12) hx hb k_arr hK hP hD hS hA (by decide) (by decide) (Nat.le_of_ble_eq_true rfl) (Nat.le_of_ble_eq_true rfl) dX1_init_31 (fun q_4 H hP hD hS => ?_)
  have hP : va_P (gD G) vC [(a0, .inr (1, [.int 0, .int 0, .int 0, .int 0, .int 0, .ref q_1, .ref q_2, .ref q_3, .null, .null, .null])), (q_1, eI G 12 (fun _ => 0)), (q_2, eI G 12 (fun _ => 0)), (q_3, eI G 12 (fun _ => 0)), (q_4, eI G 12 (fun _ => 0))] H := hP
  have hD : va_D A [(a0, .inr (1, [.int 0, .int 0, .int 0, .int 0, .int 0, .ref q_1, .ref q_2, .ref q_3, .null, .null, .null])), (q_1, eI G 12 (fun _ => 0)), (q_2, eI G 12 (fun _ => 0)), (q_3, eI G 12 (fun _ => 0)), (q_4, eI G 12 (fun _ => 0))] := hD
  refine va_putF (D := gD G) (ci := 1) (v := .ref q_4) (ty := (.array .int)) (C := RX1) (T := TX1) (N := 11) hx hb hts in_X1 tyX1 tyX1_ok nmX1 hown hK hP hD hS 0 rfl rfl 8 (by decide) k_f21 (fun _ h9 => h9) rfl hnm rfl (by decide +kernel) rfl rfl (Nat.le_of_ble_eq_true rfl) dX1_init_33 (fun H locs hP hD hS => ?_)
  have hP : va_P (gD G) vC [(a0, .inr (1, [.int 0, .int 0, .int 0, .int 0, .int 0, .ref q_1, .ref q_2, .ref q_3, .ref q_4, .null, .null])), (q_1, eI G 12 (fun _ => 0)), (q_2, eI G 12 (fun _ => 0)), (q_3, eI G 12 (fun _ => 0)), (q_4, eI G 12 (fun _ => 0))] H := hP
  have hD : va_D A [(a0, .inr (1, [.int 0, .int 0, .int 0, .int 0, .int 0, .ref q_1, .ref q_2, .ref q_3, .ref q_4, .null, .null])), (q_1, eI G 12 (fun _ => 0)), (q_2, eI G 12 (fun _ => 0)), (q_3, eI G 12 (fun _ => 0)), (q_4, eI G 12 (fun _ => 0))] := hD
  refine lv_aload_n hx hb dX1_init_36 rfl (lv_at hl 0 rfl) ?_
  refine lv_bipush (v := nI 12) hx hb dX1_init_37 (by decide +kernel) ?_
  refine x_newI (N := 12) hx hb k_arr hK hP hD hS hA (by decide) (by decide) (Nat.le_of_ble_eq_true rfl) (Nat.le_of_ble_eq_true rfl) dX1_init_39 (fun q_5 H hP hD hS => ?_)
  have hP : va_P (gD G) vC [(a0, .inr (1, [.int 0, .int 0, .int 0, .int 0, .int 0, .ref q_1, .ref q_2, .ref q_3, .ref q_4, .null, .null])), (q_1, eI G 12 (fun _ => 0)), (q_2, eI G 12 (fun _ => 0)), (q_3, eI G 12 (fun _ => 0)), (q_4, eI G 12 (fun _ => 0)), (q_5, eI G 12 (fun _ => 0))] H := hP
  have hD : va_D A [(a0, .inr (1, [.int 0, .int 0, .int 0, .int 0, .int 0, .ref q_1, .ref q_2, .ref q_3, .ref q_4, .null, .null])), (q_1, eI G 12 (fun _ => 0)), (q_2, eI G 12 (fun _ => 0)), (q_3, eI G 12 (fun _ => 0)), (q_4, eI G 12 (fun _ => 0)), (q_5, eI G 12 (fun _ => 0))] := hD
  refine va_putF (D := gD G) (ci := 1) (v := .ref q_5) (ty := (.array .int)) (C := RX1) (T := TX1) (N := 11) hx hb hts in_X1 tyX1 tyX1_ok nmX1 hown hK hP hD hS 0 rfl rfl 9 (by decide) k_f24 (fun _ h9 => h9) rfl hnm rfl (by decide +kernel) rfl rfl (Nat.le_of_ble_eq_true rfl) dX1_init_41 (fun H locs hP hD hS => ?_)
  have hP : va_P (gD G) vC [(a0, .inr (1, [.int 0, .int 0, .int 0, .int 0, .int 0, .ref q_1, .ref q_2, .ref q_3, .ref q_4, .ref q_5, .null])), (q_1, eI G 12 (fun _ => 0)), (q_2, eI G 12 (fun _ => 0)), (q_3, eI G 12 (fun _ => 0)), (q_4, eI G 12 (fun _ => 0)), (q_5, eI G 12 (fun _ => 0))] H := hP
  have hD : va_D A [(a0, .inr (1, [.int 0, .int 0, .int 0, .int 0, .int 0, .ref q_1, .ref q_2, .ref q_3, .ref q_4, .ref q_5, .null])), (q_1, eI G 12 (fun _ => 0)), (q_2, eI G 12 (fun _ => 0)), (q_3, eI G 12 (fun _ => 0)), (q_4, eI G 12 (fun _ => 0)), (q_5, eI G 12 (fun _ => 0))] := hD
  refine lv_aload_n hx hb dX1_init_44 rfl (lv_at hl 0 rfl) ?_
  refine lv_bipush (v := nI 66) hx hb dX1_init_45 (by decide +kernel) ?_
  refine x_newI (N := 66) hx hb k_arr hK hP hD hS hA (by decide) (by decide) (Nat.le_of_ble_eq_true rfl) (Nat.le_of_ble_eq_true rfl) dX1_init_47 (fun q_6 H hP hD hS => ?_)
  have hP : va_P (gD G) vC [(a0, .inr (1, [.int 0, .int 0, .int 0, .int 0, .int 0, .ref q_1, .ref q_2, .ref q_3, .ref q_4, .ref q_5, .null])), (q_1, eI G 12 (fun _ => 0)), (q_2, eI G 12 (fun _ => 0)), (q_3, eI G 12 (fun _ => 0)), (q_4, eI G 12 (fun _ => 0)), (q_5, eI G 12 (fun _ => 0)), (q_6, eI G 66 (fun _ => 0))] H := hP
  have hD : va_D A [(a0, .inr (1, [.int 0, .int 0, .int 0, .int 0, .int 0, .ref q_1, .ref q_2, .ref q_3, .ref q_4, .ref q_5, .null])), (q_1, eI G 12 (fun _ => 0)), (q_2, eI G 12 (fun _ => 0)), (q_3, eI G 12 (fun _ => 0)), (q_4, eI G 12 (fun _ => 0)), (q_5, eI G 12 (fun _ => 0)), (q_6, eI G 66 (fun _ => 0))] := hD
  refine va_putF (D := gD G) (ci := 1) (v := .ref q_6) (ty := (.array .int)) (C := RX1) (T := TX1) (N := 11) hx hb hts in_X1 tyX1 tyX1_ok nmX1 hown hK hP hD hS 0 rfl rfl 10 (by decide) k_f27 (fun _ h9 => h9) rfl hnm rfl (by decide +kernel) rfl rfl (Nat.le_of_ble_eq_true rfl) dX1_init_49 (fun H locs hP hD hS => ?_)
  have hP : va_P (gD G) vC [(a0, .inr (1, [.int 0, .int 0, .int 0, .int 0, .int 0, .ref q_1, .ref q_2, .ref q_3, .ref q_4, .ref q_5, .ref q_6])), (q_1, eI G 12 (fun _ => 0)), (q_2, eI G 12 (fun _ => 0)), (q_3, eI G 12 (fun _ => 0)), (q_4, eI G 12 (fun _ => 0)), (q_5, eI G 12 (fun _ => 0)), (q_6, eI G 66 (fun _ => 0))] H := hP
  have hD : va_D A [(a0, .inr (1, [.int 0, .int 0, .int 0, .int 0, .int 0, .ref q_1, .ref q_2, .ref q_3, .ref q_4, .ref q_5, .ref q_6])), (q_1, eI G 12 (fun _ => 0)), (q_2, eI G 12 (fun _ => 0)), (q_3, eI G 12 (fun _ => 0)), (q_4, eI G 12 (fun _ => 0)), (q_5, eI G 12 (fun _ => 0)), (q_6, eI G 66 (fun _ => 0))] := hD
  exact x_vret hQ hx hb hr hlk hS.2.2 dX1_init_52 ⟨hS.fr, fun k => if k = 0 then a0 else if k = 1 then q_1 else if k = 2 then q_2 else if k = 3 then q_3 else if k = 4 then q_4 else if k = 5 then q_5 else q_6, rfl, hP, hD⟩
