abbrev rmX4_stationTold : Room := { frames := 4, cells := 0, slots := 0, locals := 93 }
theorem qdX4_stationTold : yX4_stationTold.cls = RX4 ∧ yX4_stationTold.cls ≠ "java/lang/invoke/MethodHandle" ∧ yX4_stationTold.cls ≠ "java/lang/invoke/VarHandle" ∧ (parseMethodDescriptor yX4_stationTold.desc).map (fun d => d.parameters.length) = some 2 := by decide +kernel
set_option maxHeartbeats 4000000 in
set_option maxRecDepth 100000 in
theorem c_X4_stationTold {l : Launch} {G : gT} {b : Nat → Nat} {mi : Nat → Int32} {ma : Nat → Nat → Int32} {H : Heap} {n hn : Nat} {i k : Nat} (hP : mP G b mi ma H) (hg : OK n hn (ma 0) (ma 1)) (hi : i < n) (hmh : mi 2 = nI hn) (hk : k < 6) : Rd G l yX4_stationTold wsX4_stationTold rmX4_stationTold [.ref (b 0), .int (nI i), .int (nI k)] H (.int (if k < 5 then gL (ma 0) i k else nI (cnt (fun j => see (ma 0) (ma 1) j i) hn))) := by
  refine x_head (bytes := cX4_stationTold) (maxL := 3) (ret := (some .int)) (by decide) rfl (Nat.le_of_ble_eq_true rfl) ?_
  intro p e s m below meth c ls hx hb hml hown hts hr hlk hnm hK hs0 hl Q hQ
  have hl : lv_has ls 3 [(0, .ref (b 0)), (1, .int (nI i)), (2, .int (nI k))] := hl
  have hC : CallFix p m c cX4_stationTold 3 s [.ref (b 0), .int (nI i), .int (nI k)].toArray wsX4_stationTold RX4 := ⟨hx, hb, hml, hown, hts⟩
  have hn12 := hg.n
  refine lv_iload_n hx hb dX4_stationTold_0 rfl (lv_at hl 2 rfl) ?_
  refine lv_iconst (v := nI 5) hx hb dX4_stationTold_1 (by decide +kernel) ?_
  refine x_icmp_ge (tgt := 14) hx hb (by omega) (by omega) dX4_stationTold_2 (by decide) (fun c_1 => ?_) (fun c_1 => ?_)
  · refine lv_aload_n hx hb dX4_stationTold_14 rfl (lv_at hl 0 rfl) ?_
    refine lv_iload_n hx hb dX4_stationTold_15 rfl (lv_at hl 1 rfl) ?_
    refine x_rd (va_runV (As := [.int (nI i)]) (rest := []) hC (c_X4_sightings hP hg (by omega) hmh) (cwV 1 hts gX4_stationTold_X4_sightings rfl rfl rfl qdX4_sightings ⟨Nat.le_of_ble_eq_true rfl, Nat.le_of_ble_eq_true rfl⟩) (x_preV hK (x_recv hK (hP 0 _ rfl) rfl)) rfl rfl hl.1 rfl (lv_room (Nat.le_of_ble_eq_true rfl)) dX4_stationTold_16 ⟨Nat.le_of_ble_eq_true rfl, Nat.le_of_ble_eq_true rfl⟩) ?_
    exact x_rdi hQ hx hb hr rfl hlk (by rw [if_neg (by omega)]) dX4_stationTold_19
  · refine lv_aload_n hx hb dX4_stationTold_5 rfl (lv_at hl 0 rfl) ?_
    refine lv_iload_n hx hb dX4_stationTold_6 rfl (lv_at hl 1 rfl) ?_
    refine lv_iload_n hx hb dX4_stationTold_7 rfl (lv_at hl 2 rfl) ?_
    refine x_rd (va_runV (As := [.int (nI i), .int (nI k)]) (rest := []) hC (c_X4_get hP (by omega) (by omega)) (cwV 2 hts gX4_stationTold_X4_get rfl rfl rfl qdX4_get ⟨Nat.le_of_ble_eq_true rfl, Nat.le_of_ble_eq_true rfl⟩) (x_preV hK (x_recv hK (hP 0 _ rfl) rfl)) rfl rfl hl.1 rfl (lv_room (Nat.le_of_ble_eq_true rfl)) dX4_stationTold_8 ⟨Nat.le_of_ble_eq_true rfl, Nat.le_of_ble_eq_true rfl⟩) ?_
    refine lv_goto (tgt := 19) hx hb dX4_stationTold_11 (by decide) ?_
    exact x_rdi hQ hx hb hr rfl hlk (by rw [if_pos c_1]) dX4_stationTold_19
abbrev rmX4_thrown : Room := { frames := 0, cells := 0, slots := 0, locals := 0 }
theorem qdX4_thrown : yX4_thrown.cls = RX4 ∧ yX4_thrown.cls ≠ "java/lang/invoke/MethodHandle" ∧ yX4_thrown.cls ≠ "java/lang/invoke/VarHandle" ∧ (parseMethodDescriptor yX4_thrown.desc).map (fun d => d.parameters.length) = some 0 := by decide +kernel
set_option maxHeartbeats 4000000 in
set_option maxRecDepth 100000 in
theorem c_X4_thrown {l : Launch} {G : gT} {b : Nat → Nat} {mi : Nat → Int32} {ma : Nat → Nat → Int32} {H : Heap} (hP : mP G b mi ma H) : Rd G l yX4_thrown wsX4_thrown rmX4_thrown [.ref (b 0)] H (.int (mi 0)) := by
  refine x_head (bytes := cX4_thrown) (maxL := 1) (ret := (some .int)) (by decide) rfl (Nat.le_of_ble_eq_true rfl) ?_
  intro p e s m below meth c ls hx hb hml hown hts hr hlk hnm hK hs0 hl Q hQ
  have hl : lv_has ls 1 [(0, .ref (b 0))] := hl
  have hC : CallFix p m c cX4_thrown 1 s [.ref (b 0)].toArray wsX4_thrown RX4 := ⟨hx, hb, hml, hown, hts⟩
  have k_f25 := hts (.fieldLink RX4 25 "SundogLineModel" "thrown" "I") (by decide +kernel)
  have in_X4 : ∀ w ∈ u_ws RX4 TX4 11, w ∈ wsX4_thrown := by decide +kernel
  refine lv_aload_n hx hb dX4_thrown_0 rfl (lv_at hl 0 rfl) ?_
  refine x_get (T := TX4) (N := 11) (v := .int (mi 0)) hx hb hts in_X4 hown hK (hP 0 _ rfl) rfl 0 (by decide) k_f25 (fun _ h9 => h9) (rfl) dX4_thrown_1 ?_
  exact x_rdi hQ hx hb hr rfl hlk (rfl) dX4_thrown_4
abbrev rmX4_fail : Room := { frames := 0, cells := 0, slots := 0, locals := 0 }
theorem qdX4_fail : yX4_fail.cls = RX4 ∧ yX4_fail.cls ≠ "java/lang/invoke/MethodHandle" ∧ yX4_fail.cls ≠ "java/lang/invoke/VarHandle" ∧ (parseMethodDescriptor yX4_fail.desc).map (fun d => d.parameters.length) = some 1 := by decide +kernel
set_option maxHeartbeats 4000000 in
set_option maxRecDepth 100000 in
theorem c_X4_fail {l : Launch} {G : gT} {A : Nat → Prop} {b : Nat → Nat} {mi : Nat → Int32} {ma : Nat → Nat → Int32} {H0 : Heap} {x : Int32} (hP : mP G b mi ma H0) (hD : va_D A (mW G b mi ma)) : WrI G l yX4_fail wsX4_fail rmX4_fail [.ref (b 0), .int x] H0 A (fun r H1 => r = nI 0 ∧ mP G b (va_up mi 0 x) ma H1) := by
  refine x_head (bytes := cX4_fail) (maxL := 2) (ret := (some .int)) (by decide) rfl (Nat.le_of_ble_eq_true rfl) ?_
  intro p e s m below meth c ls hx hb hml hown hts hr hlk hnm hK hs0 hl Q hQ
  have hl : lv_has ls 2 [(0, .ref (b 0)), (1, .int x)] := hl
  have hC : CallFix p m c cX4_fail 2 s [.ref (b 0), .int x].toArray wsX4_fail RX4 := ⟨hx, hb, hml, hown, hts⟩
  have k_f25 := hts (.fieldLink RX4 25 "SundogLineModel" "thrown" "I") (by decide +kernel)
  have in_X4 : ∀ w ∈ u_ws RX4 TX4 11, w ∈ wsX4_fail := by decide +kernel
  have hS : va_S A H0 H0 [] := va_S.rf
  refine lv_aload_n hx hb dX4_fail_0 rfl (lv_at hl 0 rfl) ?_
  refine lv_iload_n hx hb dX4_fail_1 rfl (lv_at hl 1 rfl) ?_
  refine va_put (D := gD G) (ci := 4) (v := .int x) (ty := .int) (C := RX4) (T := TX4) (N := 11) hx hb hts in_X4 tyX4 tyX4_ok nmX4 hown hK hP hD hS 0 rfl rfl 0 (by decide) k_f25 (fun _ h9 => h9) rfl (by decide +kernel) rfl rfl (Nat.le_of_ble_eq_true rfl) dX4_fail_2 (fun H locs hP hD hS => ?_)
  have hP : mP G b (va_up mi 0 x) ma H := hP
  have hD : va_D A (mW G b (va_up mi 0 x) ma) := hD
  refine lv_iconst (v := nI 0) hx hb dX4_fail_5 (by decide +kernel) ?_
  exact x_iret hQ hx hb hr rfl hlk hS.2.2 dX4_fail_6 (⟨hS.fr, rfl, hP⟩)
abbrev rmX4_set : Room := { frames := 0, cells := 0, slots := 0, locals := 0 }
theorem qdX4_set : yX4_set.cls = RX4 ∧ yX4_set.cls ≠ "java/lang/invoke/MethodHandle" ∧ yX4_set.cls ≠ "java/lang/invoke/VarHandle" ∧ (parseMethodDescriptor yX4_set.desc).map (fun d => d.parameters.length) = some 3 := by decide +kernel
set_option maxHeartbeats 4000000 in
set_option maxRecDepth 100000 in
theorem c_X4_set {l : Launch} {G : gT} {A : Nat → Prop} {b : Nat → Nat} {mi : Nat → Int32} {ma : Nat → Nat → Int32} {H0 : Heap} {i k : Nat} {x : Int32} (hP : mP G b mi ma H0) (hD : va_D A (mW G b mi ma)) (hi : i < 12) (hk : k < 13) : WrV G l yX4_set wsX4_set rmX4_set [.ref (b 0), .int (nI i), .int (nI k), .int x] H0 A (fun H1 => mP G b mi (va_up ma 0 (upd (ma 0) (13 * i + k) x)) H1) := by
  refine x_head (bytes := cX4_set) (maxL := 4) (ret := none) (by decide) rfl (Nat.le_of_ble_eq_true rfl) ?_
  intro p e s m below meth c ls hx hb hml hown hts hr hlk hnm hK hs0 hl Q hQ
  have hl : lv_has ls 4 [(0, .ref (b 0)), (1, .int (nI i)), (2, .int (nI k)), (3, .int x)] := hl
  have hC : CallFix p m c cX4_set 4 s [.ref (b 0), .int (nI i), .int (nI k), .int x].toArray wsX4_set RX4 := ⟨hx, hb, hml, hown, hts⟩
  have k_f9 := hts (.fieldLink RX4 9 "SundogLineModel" "line" "[I") (by decide +kernel)
  have in_X4 : ∀ w ∈ u_ws RX4 TX4 11, w ∈ wsX4_set := by decide +kernel
  have hS : va_S A H0 H0 [] := va_S.rf
  refine lv_aload_n hx hb dX4_set_0 rfl (lv_at hl 0 rfl) ?_
  refine x_get (T := TX4) (N := 11) (v := .ref (b 1)) hx hb hts in_X4 hown hK (hP 0 _ rfl) rfl 2 (by decide) k_f9 (fun _ h9 => h9) (rfl) dX4_set_1 ?_
  refine lv_bipush (v := nI 13) hx hb dX4_set_4 (by decide +kernel) ?_
  refine lv_iload_n hx hb dX4_set_6 rfl (lv_at hl 1 rfl) ?_
  refine x_imulN hx hb dX4_set_7 ?_
  refine lv_iload_n hx hb dX4_set_8 rfl (lv_at hl 2 rfl) ?_
  refine x_iaddN hx hb dX4_set_9 ?_
  refine lv_iload_n hx hb dX4_set_10 rfl (lv_at hl 3 rfl) ?_
  refine x_iast hx hb hK hP hD hS 1 rfl (by omega) (by decide) dX4_set_11 (fun H locs hP hD hS => ?_)
  have hP : mP G b mi (va_up ma 0 (upd (ma 0) ((13 * i) + k) x)) H := hP
  have hD : va_D A (mW G b mi (va_up ma 0 (upd (ma 0) ((13 * i) + k) x))) := hD
  exact x_vret hQ hx hb hr hlk hS.2.2 dX4_set_12 (⟨hS.fr, hP⟩)
abbrev rmX4_clear : Room := { frames := 2, cells := 0, slots := 0, locals := 43 }
theorem qdX4_clear : yX4_clear.cls = RX4 ∧ yX4_clear.cls ≠ "java/lang/invoke/MethodHandle" ∧ yX4_clear.cls ≠ "java/lang/invoke/VarHandle" ∧ (parseMethodDescriptor yX4_clear.desc).map (fun d => d.parameters.length) = some 1 := by decide +kernel
set_option maxHeartbeats 4000000 in
set_option maxRecDepth 100000 in
theorem c_X4_clear {l : Launch} {G : gT} {A : Nat → Prop} {b : Nat → Nat} {mi : Nat → Int32} {ma : Nat → Nat → Int32} {H0 : Heap} {n hn : Nat} {x1 : Int32} (hP : mP G b mi ma H0) (hD : va_D A (mW G b mi ma)) (hmn : mi 1 = nI n) (hmh : mi 2 = nI hn) (hg : OK n hn (ma 0) (ma 1)) : WrI G l yX4_clear wsX4_clear rmX4_clear [.ref (b 0), .int x1] H0 A (fun r H1 => mQ G b n hn (if k1 (vS n x1) = 0 then upd (ma 0) (13 * x1.toNatClampNeg + 4) 0 else (ma 0)) (ma 1) (k1 (vS n x1)) (gL (ma 0) x1.toNatClampNeg 4) r H1) := by
  refine x_head (bytes := cX4_clear) (maxL := 3) (ret := (some .int)) (by decide) rfl (Nat.le_of_ble_eq_true rfl) ?_
  intro p e s m below meth c ls hx hb hml hown hts hr hlk hnm hK hs0 hl Q hQ
  have hl : lv_has ls 3 [(0, .ref (b 0)), (1, .int x1)] := hl
  have hC : CallFix p m c cX4_clear 3 s [.ref (b 0), .int x1].toArray wsX4_clear RX4 := ⟨hx, hb, hml, hown, hts⟩
  have k_f25 := hts (.fieldLink RX4 25 "SundogLineModel" "thrown" "I") (by decide +kernel)
  have in_X4 : ∀ w ∈ u_ws RX4 TX4 11, w ∈ wsX4_clear := by decide +kernel
  have hS : va_S A H0 H0 [] := va_S.rf
  have hn12 := hg.n
  have hh16 := hg.hn
  refine lv_aload_n hx hb dX4_clear_0 rfl (lv_at hl 0 rfl) ?_
  refine lv_iconst (v := nI 0) hx hb dX4_clear_1 (by decide +kernel) ?_
  refine va_put (D := gD G) (ci := 4) (v := .int (nI 0)) (ty := .int) (C := RX4) (T := TX4) (N := 11) hx hb hts in_X4 tyX4 tyX4_ok nmX4 hown hK hP hD hS 0 rfl rfl 0 (by decide) k_f25 (fun _ h9 => h9) rfl (by decide +kernel) rfl rfl (Nat.le_of_ble_eq_true rfl) dX4_clear_2 (fun H locs hP hD hS => ?_)
  have hP : mP G b (va_up mi 0 (nI 0)) ma H := hP
  have hD : va_D A (mW G b (va_up mi 0 (nI 0)) ma) := hD
  refine lv_aload_n hx hb dX4_clear_5 rfl (lv_at hl 0 rfl) ?_
  refine lv_iload_n hx hb dX4_clear_6 rfl (lv_at hl 1 rfl) ?_
  refine x_rd (va_runV (As := [.int x1]) (rest := []) hC (c_X4_isStation hP hmn) (cwV 1 hts gX4_clear_X4_isStation rfl rfl rfl qdX4_isStation ⟨Nat.le_of_ble_eq_true rfl, Nat.le_of_ble_eq_true rfl⟩) (x_preV hK (x_recv hK (hP 0 _ rfl) rfl)) rfl rfl hl.1 rfl (lv_room (Nat.le_of_ble_eq_true rfl)) dX4_clear_7 ⟨Nat.le_of_ble_eq_true rfl, Nat.le_of_ble_eq_true rfl⟩) ?_
  refine W.eq (g2 := F0 m 10 ls [.int (bI (vS n x1))]) rfl ?_
  refine x_if_neB (tgt := 19) hx hb dX4_clear_10 (by decide) (fun c_1 => ?_) (fun c_1 => ?_)
  · obtain ⟨i, hi, rfl⟩ := inR_nat (show n < 2 ^ 30 by omega) c_1
    refine lv_aload_n hx hb dX4_clear_19 rfl (lv_at hl 0 rfl) ?_
    refine lv_iload_n hx hb dX4_clear_20 rfl (lv_at hl 1 rfl) ?_
    refine lv_iconst (v := nI 4) hx hb dX4_clear_21 (by decide +kernel) ?_
    refine x_rd (va_runV (As := [.int (nI i), .int (nI 4)]) (rest := []) hC (c_X4_get hP (by omega) (by omega)) (cwV 2 hts gX4_clear_X4_get rfl rfl rfl qdX4_get ⟨Nat.le_of_ble_eq_true rfl, Nat.le_of_ble_eq_true rfl⟩) (x_preV hK (x_recv hK (hP 0 _ rfl) rfl)) rfl rfl hl.1 rfl (lv_room (Nat.le_of_ble_eq_true rfl)) dX4_clear_22 ⟨Nat.le_of_ble_eq_true rfl, Nat.le_of_ble_eq_true rfl⟩) ?_
    refine W.eq (g2 := F0 m 25 ls [.int (gL (ma 0) i 4)]) rfl ?_
    refine lv_istore_n (lv' := [(2, .int (gL (ma 0) i 4)), (0, .ref (b 0)), (1, .int (nI i))]) hx hb dX4_clear_25 rfl hl (by decide) rfl (fun ls hl => ?_)
    refine lv_aload_n hx hb dX4_clear_26 rfl (lv_at hl 1 rfl) ?_
    refine lv_iload_n hx hb dX4_clear_27 rfl (lv_at hl 2 rfl) ?_
    refine lv_iconst (v := nI 4) hx hb dX4_clear_28 (by decide +kernel) ?_
    refine lv_iconst (v := nI 0) hx hb dX4_clear_29 (by decide +kernel) ?_
    refine x_runv (va_runV (As := [.int (nI i), .int (nI 4), .int (nI 0)]) (rest := []) hC (c_X4_set hP hD (by omega) (by omega)) (cwV 3 hts gX4_clear_X4_set rfl rfl rfl qdX4_set ⟨Nat.le_of_ble_eq_true rfl, Nat.le_of_ble_eq_true rfl⟩) (x_preV hK (x_recv hK (hP 0 _ rfl) rfl)) rfl rfl hl.1 rfl (lv_room (Nat.le_of_ble_eq_true rfl)) dX4_clear_30 ⟨Nat.le_of_ble_eq_true rfl, Nat.le_of_ble_eq_true rfl⟩) hS (fun _ h => h) (fun H locs hfr hΦ hS => ?_)
    have hP : mP G b (va_up mi 0 (nI 0)) (va_up ma 0 (upd (ma 0) (13 * i + 4) (nI 0))) H := hΦ
    have hD : va_D A (mW G b (va_up mi 0 (nI 0)) (va_up ma 0 (upd (ma 0) (13 * i + 4) (nI 0)))) := hD.same rfl
    refine lv_iload_n hx hb dX4_clear_33 rfl (lv_at hl 0 rfl) ?_
    have hkk9 : k1 (vS n (nI i)) = 0 := by simp only [k1, k2, k3, Bool.and_true, Bool.true_and, Bool.and_false, Bool.false_and, Bool.not_true, Bool.not_false, c_1] <;> rfl
    exact x_iret hQ hx hb hr rfl hlk hS.2.2 dX4_clear_34 ⟨hS.fr, mQ_mk (k0 := 0) hkk9 hP rfl (hmn) (hmh) (by rw [if_pos hkk9, nI_clamp (show i < 2 ^ 31 by omega)] <;> rfl) (rfl) (fun _ => by rw [nI_clamp (show i < 2 ^ 31 by omega)])⟩
  · refine lv_aload_n hx hb dX4_clear_13 rfl (lv_at hl 0 rfl) ?_
    refine lv_iconst (v := nI 1) hx hb dX4_clear_14 (by decide +kernel) ?_
    refine x_runi (va_runV (As := [.int (nI 1)]) (rest := []) hC (c_X4_fail hP hD) (cwV 1 hts gX4_clear_X4_fail rfl rfl rfl qdX4_fail ⟨Nat.le_of_ble_eq_true rfl, Nat.le_of_ble_eq_true rfl⟩) (x_preV hK (x_recv hK (hP 0 _ rfl) rfl)) rfl rfl hl.1 rfl (lv_room (Nat.le_of_ble_eq_true rfl)) dX4_clear_15 ⟨Nat.le_of_ble_eq_true rfl, Nat.le_of_ble_eq_true rfl⟩) hS (fun _ h => h) (fun r_2 H locs hfr hΦ hS => ?_)
    obtain ⟨er_2, hP⟩ := hΦ
    rw [er_2]
    have hP : mP G b (va_up mi 0 (nI 1)) ma H := hP
    have hD : va_D A (mW G b (va_up mi 0 (nI 1)) ma) := hD.same rfl
    have hkk9 : k1 (vS n x1) = 1 := by simp only [k1, k2, k3, Bool.and_true, Bool.true_and, Bool.and_false, Bool.false_and, Bool.not_true, Bool.not_false, c_1] <;> rfl
    have hkn9 : ¬ k1 (vS n x1) = 0 := by rw [hkk9]; decide
    exact x_iret hQ hx hb hr rfl hlk hS.2.2 dX4_clear_18 ⟨hS.fr, mQ_mk (k0 := 1) hkk9 hP rfl (hmn) (hmh) (by rw [if_neg hkn9] <;> rfl) (rfl) (fun z => absurd z (by decide))⟩
abbrev rmX4_correct : Room := { frames := 2, cells := 0, slots := 0, locals := 43 }
theorem qdX4_correct : yX4_correct.cls = RX4 ∧ yX4_correct.cls ≠ "java/lang/invoke/MethodHandle" ∧ yX4_correct.cls ≠ "java/lang/invoke/VarHandle" ∧ (parseMethodDescriptor yX4_correct.desc).map (fun d => d.parameters.length) = some 2 := by decide +kernel
set_option maxHeartbeats 4000000 in
set_option maxRecDepth 100000 in
theorem c_X4_correct {l : Launch} {G : gT} {A : Nat → Prop} {b : Nat → Nat} {mi : Nat → Int32} {ma : Nat → Nat → Int32} {H0 : Heap} {n hn : Nat} {x1 x2 : Int32} (hP : mP G b mi ma H0) (hD : va_D A (mW G b mi ma)) (hmn : mi 1 = nI n) (hmh : mi 2 = nI hn) (hg : OK n hn (ma 0) (ma 1)) : WrI G l yX4_correct wsX4_correct rmX4_correct [.ref (b 0), .int x1, .int x2] H0 A (fun r H1 => mQ G b n hn (if k2 (vS n x1) (inR (-100000) (nI 100000) x2) = 0 then upd (ma 0) (13 * x1.toNatClampNeg + 3) x2 else (ma 0)) (ma 1) (k2 (vS n x1) (inR (-100000) (nI 100000) x2)) (gL (ma 0) x1.toNatClampNeg 3) r H1) := by
  refine x_head (bytes := cX4_correct) (maxL := 4) (ret := (some .int)) (by decide) rfl (Nat.le_of_ble_eq_true rfl) ?_
  intro p e s m below meth c ls hx hb hml hown hts hr hlk hnm hK hs0 hl Q hQ
  have hl : lv_has ls 4 [(0, .ref (b 0)), (1, .int x1), (2, .int x2)] := hl
  have hC : CallFix p m c cX4_correct 4 s [.ref (b 0), .int x1, .int x2].toArray wsX4_correct RX4 := ⟨hx, hb, hml, hown, hts⟩
  have k_f25 := hts (.fieldLink RX4 25 "SundogLineModel" "thrown" "I") (by decide +kernel)
  have in_X4 : ∀ w ∈ u_ws RX4 TX4 11, w ∈ wsX4_correct := by decide +kernel
  have k_c56 := hts (.constant RX4 56 (-100000)) (by decide +kernel)
  have k_c57 := hts (.constant RX4 57 (100000)) (by decide +kernel)
  have hS : va_S A H0 H0 [] := va_S.rf
  have hn12 := hg.n
  have hh16 := hg.hn
  refine lv_aload_n hx hb dX4_correct_0 rfl (lv_at hl 0 rfl) ?_
  refine lv_iconst (v := nI 0) hx hb dX4_correct_1 (by decide +kernel) ?_
  refine va_put (D := gD G) (ci := 4) (v := .int (nI 0)) (ty := .int) (C := RX4) (T := TX4) (N := 11) hx hb hts in_X4 tyX4 tyX4_ok nmX4 hown hK hP hD hS 0 rfl rfl 0 (by decide) k_f25 (fun _ h9 => h9) rfl (by decide +kernel) rfl rfl (Nat.le_of_ble_eq_true rfl) dX4_correct_2 (fun H locs hP hD hS => ?_)
  have hP : mP G b (va_up mi 0 (nI 0)) ma H := hP
  have hD : va_D A (mW G b (va_up mi 0 (nI 0)) ma) := hD
  refine lv_aload_n hx hb dX4_correct_5 rfl (lv_at hl 0 rfl) ?_
  refine lv_iload_n hx hb dX4_correct_6 rfl (lv_at hl 1 rfl) ?_
  refine x_rd (va_runV (As := [.int x1]) (rest := []) hC (c_X4_isStation hP hmn) (cwV 1 hts gX4_correct_X4_isStation rfl rfl rfl qdX4_isStation ⟨Nat.le_of_ble_eq_true rfl, Nat.le_of_ble_eq_true rfl⟩) (x_preV hK (x_recv hK (hP 0 _ rfl) rfl)) rfl rfl hl.1 rfl (lv_room (Nat.le_of_ble_eq_true rfl)) dX4_correct_7 ⟨Nat.le_of_ble_eq_true rfl, Nat.le_of_ble_eq_true rfl⟩) ?_
  refine W.eq (g2 := F0 m 10 ls [.int (bI (vS n x1))]) rfl ?_
  refine x_if_neB (tgt := 19) hx hb dX4_correct_10 (by decide) (fun c_1 => ?_) (fun c_1 => ?_)
  · obtain ⟨i, hi, rfl⟩ := inR_nat (show n < 2 ^ 30 by omega) c_1
    refine lv_iload_n hx hb dX4_correct_19 rfl (lv_at hl 2 rfl) ?_
    refine lv_ldc (v := (-100000)) hx hb hown k_c56 dX4_correct_20 ?_
    refine lv_ldc (v := nI 100000) hx hb hown k_c57 dX4_correct_22 ?_
    refine x_rd (va_runS (As := [.int x2, .int ((-100000)), .int (nI 100000)]) (rest := []) hC (c_X4_isIn) (cwS 3 hts gX4_correct_X4_isIn rfl rfl rfl qdX4_isIn ⟨Nat.le_of_ble_eq_true rfl, Nat.le_of_ble_eq_true rfl⟩) (x_preS hK) rfl rfl hl.1 rfl (lv_room (Nat.le_of_ble_eq_true rfl)) dX4_correct_24 ⟨Nat.le_of_ble_eq_true rfl, Nat.le_of_ble_eq_true rfl⟩) ?_
    refine W.eq (g2 := F0 m 27 ls [.int (bI (inR (-100000) (nI 100000) x2))]) rfl ?_
    refine x_if_neB (tgt := 36) hx hb dX4_correct_27 (by decide) (fun c_2 => ?_) (fun c_2 => ?_)
    · refine lv_aload_n hx hb dX4_correct_36 rfl (lv_at hl 0 rfl) ?_
      refine lv_iload_n hx hb dX4_correct_37 rfl (lv_at hl 1 rfl) ?_
      refine lv_iconst (v := nI 3) hx hb dX4_correct_38 (by decide +kernel) ?_
      refine x_rd (va_runV (As := [.int (nI i), .int (nI 3)]) (rest := []) hC (c_X4_get hP (by omega) (by omega)) (cwV 2 hts gX4_correct_X4_get rfl rfl rfl qdX4_get ⟨Nat.le_of_ble_eq_true rfl, Nat.le_of_ble_eq_true rfl⟩) (x_preV hK (x_recv hK (hP 0 _ rfl) rfl)) rfl rfl hl.1 rfl (lv_room (Nat.le_of_ble_eq_true rfl)) dX4_correct_39 ⟨Nat.le_of_ble_eq_true rfl, Nat.le_of_ble_eq_true rfl⟩) ?_
      refine W.eq (g2 := F0 m 42 ls [.int (gL (ma 0) i 3)]) rfl ?_
      refine lv_istore_n (lv' := [(3, .int (gL (ma 0) i 3)), (0, .ref (b 0)), (1, .int (nI i)), (2, .int x2)]) hx hb dX4_correct_42 rfl hl (by decide) rfl (fun ls hl => ?_)
      refine lv_aload_n hx hb dX4_correct_43 rfl (lv_at hl 1 rfl) ?_
      refine lv_iload_n hx hb dX4_correct_44 rfl (lv_at hl 2 rfl) ?_
      refine lv_iconst (v := nI 3) hx hb dX4_correct_45 (by decide +kernel) ?_
      refine lv_iload_n hx hb dX4_correct_46 rfl (lv_at hl 3 rfl) ?_
      refine x_runv (va_runV (As := [.int (nI i), .int (nI 3), .int x2]) (rest := []) hC (c_X4_set hP hD (by omega) (by omega)) (cwV 3 hts gX4_correct_X4_set rfl rfl rfl qdX4_set ⟨Nat.le_of_ble_eq_true rfl, Nat.le_of_ble_eq_true rfl⟩) (x_preV hK (x_recv hK (hP 0 _ rfl) rfl)) rfl rfl hl.1 rfl (lv_room (Nat.le_of_ble_eq_true rfl)) dX4_correct_47 ⟨Nat.le_of_ble_eq_true rfl, Nat.le_of_ble_eq_true rfl⟩) hS (fun _ h => h) (fun H locs hfr hΦ hS => ?_)
      have hP : mP G b (va_up mi 0 (nI 0)) (va_up ma 0 (upd (ma 0) (13 * i + 3) x2)) H := hΦ
      have hD : va_D A (mW G b (va_up mi 0 (nI 0)) (va_up ma 0 (upd (ma 0) (13 * i + 3) x2))) := hD.same rfl
      refine lv_iload_n hx hb dX4_correct_50 rfl (lv_at hl 0 rfl) ?_
      have hkk9 : k2 (vS n (nI i)) (inR (-100000) (nI 100000) x2) = 0 := by simp only [k1, k2, k3, Bool.and_true, Bool.true_and, Bool.and_false, Bool.false_and, Bool.not_true, Bool.not_false, c_1, c_2] <;> rfl
      exact x_iret hQ hx hb hr rfl hlk hS.2.2 dX4_correct_51 ⟨hS.fr, mQ_mk (k0 := 0) hkk9 hP rfl (hmn) (hmh) (by rw [if_pos hkk9, nI_clamp (show i < 2 ^ 31 by omega)] <;> rfl) (rfl) (fun _ => by rw [nI_clamp (show i < 2 ^ 31 by omega)])⟩
    · refine lv_aload_n hx hb dX4_correct_30 rfl (lv_at hl 0 rfl) ?_
      refine lv_iconst (v := nI 2) hx hb dX4_correct_31 (by decide +kernel) ?_
      refine x_runi (va_runV (As := [.int (nI 2)]) (rest := []) hC (c_X4_fail hP hD) (cwV 1 hts gX4_correct_X4_fail rfl rfl rfl qdX4_fail ⟨Nat.le_of_ble_eq_true rfl, Nat.le_of_ble_eq_true rfl⟩) (x_preV hK (x_recv hK (hP 0 _ rfl) rfl)) rfl rfl hl.1 rfl (lv_room (Nat.le_of_ble_eq_true rfl)) dX4_correct_32 ⟨Nat.le_of_ble_eq_true rfl, Nat.le_of_ble_eq_true rfl⟩) hS (fun _ h => h) (fun r_3 H locs hfr hΦ hS => ?_)
      obtain ⟨er_3, hP⟩ := hΦ
      rw [er_3]
      have hP : mP G b (va_up mi 0 (nI 2)) ma H := hP
      have hD : va_D A (mW G b (va_up mi 0 (nI 2)) ma) := hD.same rfl
      have hkk9 : k2 (vS n (nI i)) (inR (-100000) (nI 100000) x2) = 2 := by simp only [k1, k2, k3, Bool.and_true, Bool.true_and, Bool.and_false, Bool.false_and, Bool.not_true, Bool.not_false, c_1, c_2] <;> rfl
      have hkn9 : ¬ k2 (vS n (nI i)) (inR (-100000) (nI 100000) x2) = 0 := by rw [hkk9]; decide
      exact x_iret hQ hx hb hr rfl hlk hS.2.2 dX4_correct_35 ⟨hS.fr, mQ_mk (k0 := 2) hkk9 hP rfl (hmn) (hmh) (by rw [if_neg hkn9] <;> rfl) (rfl) (fun z => absurd z (by decide))⟩
  · refine lv_aload_n hx hb dX4_correct_13 rfl (lv_at hl 0 rfl) ?_
    refine lv_iconst (v := nI 1) hx hb dX4_correct_14 (by decide +kernel) ?_
    refine x_runi (va_runV (As := [.int (nI 1)]) (rest := []) hC (c_X4_fail hP hD) (cwV 1 hts gX4_correct_X4_fail rfl rfl rfl qdX4_fail ⟨Nat.le_of_ble_eq_true rfl, Nat.le_of_ble_eq_true rfl⟩) (x_preV hK (x_recv hK (hP 0 _ rfl) rfl)) rfl rfl hl.1 rfl (lv_room (Nat.le_of_ble_eq_true rfl)) dX4_correct_15 ⟨Nat.le_of_ble_eq_true rfl, Nat.le_of_ble_eq_true rfl⟩) hS (fun _ h => h) (fun r_4 H locs hfr hΦ hS => ?_)
    obtain ⟨er_4, hP⟩ := hΦ
    rw [er_4]
    have hP : mP G b (va_up mi 0 (nI 1)) ma H := hP
    have hD : va_D A (mW G b (va_up mi 0 (nI 1)) ma) := hD.same rfl
    have hkk9 : k2 (vS n x1) (inR (-100000) (nI 100000) x2) = 1 := by simp only [k1, k2, k3, Bool.and_true, Bool.true_and, Bool.and_false, Bool.false_and, Bool.not_true, Bool.not_false, c_1] <;> rfl
    have hkn9 : ¬ k2 (vS n x1) (inR (-100000) (nI 100000) x2) = 0 := by rw [hkk9]; decide
    exact x_iret hQ hx hb hr rfl hlk hS.2.2 dX4_correct_18 ⟨hS.fr, mQ_mk (k0 := 1) hkk9 hP rfl (hmn) (hmh) (by rw [if_neg hkn9] <;> rfl) (rfl) (fun z => absurd z (by decide))⟩
/-- the document's test of a cloud's times -/
abbrev cB (x y : Int32) : Bool := !decide (x < 0) && decide (x < y)
/-- one more cloud -/
def Lcl (L : Nat → Int32) (i : Nat) (x y : Int32) : Nat → Int32 := upd (upd (upd L (13 * i + (5 + 2 * nc L i)) x) (13 * i + (5 + 2 * nc L i + 1)) y) (13 * i + 4) (nI (nc L i + 1))
abbrev rmX4_cloud : Room := { frames := 2, cells := 0, slots := 0, locals := 43 }
theorem qdX4_cloud : yX4_cloud.cls = RX4 ∧ yX4_cloud.cls ≠ "java/lang/invoke/MethodHandle" ∧ yX4_cloud.cls ≠ "java/lang/invoke/VarHandle" ∧ (parseMethodDescriptor yX4_cloud.desc).map (fun d => d.parameters.length) = some 3 := by decide +kernel
set_option maxHeartbeats 4000000 in
set_option maxRecDepth 100000 in
theorem c_X4_cloud {l : Launch} {G : gT} {A : Nat → Prop} {b : Nat → Nat} {mi : Nat → Int32} {ma : Nat → Nat → Int32} {H0 : Heap} {n hn : Nat} {x1 x2 x3 : Int32} (hP : mP G b mi ma H0) (hD : va_D A (mW G b mi ma)) (hmn : mi 1 = nI n) (hmh : mi 2 = nI hn) (hg : OK n hn (ma 0) (ma 1)) : WrI G l yX4_cloud wsX4_cloud rmX4_cloud [.ref (b 0), .int x1, .int x2, .int x3] H0 A (fun r H1 => mQ G b n hn (if k3 (vS n x1) (cB x2 x3) (decide (¬ nc (ma 0) x1.toNatClampNeg = 4)) = 0 then Lcl (ma 0) x1.toNatClampNeg x2 x3 else (ma 0)) (ma 1) (k3 (vS n x1) (cB x2 x3) (decide (¬ nc (ma 0) x1.toNatClampNeg = 4))) (nI (nc (ma 0) x1.toNatClampNeg + 1)) r H1) := by
  refine x_head (bytes := cX4_cloud) (maxL := 5) (ret := (some .int)) (by decide) rfl (Nat.le_of_ble_eq_true rfl) ?_
  intro p e s m below meth c ls hx hb hml hown hts hr hlk hnm hK hs0 hl Q hQ
  have hl : lv_has ls 5 [(0, .ref (b 0)), (1, .int x1), (2, .int x2), (3, .int x3)] := hl
  have hC : CallFix p m c cX4_cloud 5 s [.ref (b 0), .int x1, .int x2, .int x3].toArray wsX4_cloud RX4 := ⟨hx, hb, hml, hown, hts⟩
  have k_f25 := hts (.fieldLink RX4 25 "SundogLineModel" "thrown" "I") (by decide +kernel)
  have in_X4 : ∀ w ∈ u_ws RX4 TX4 11, w ∈ wsX4_cloud := by decide +kernel
  have hS : va_S A H0 H0 [] := va_S.rf
  have hn12 := hg.n
  have hh16 := hg.hn
  refine lv_aload_n hx hb dX4_cloud_0 rfl (lv_at hl 0 rfl) ?_
  refine lv_iconst (v := nI 0) hx hb dX4_cloud_1 (by decide +kernel) ?_
  refine va_put (D := gD G) (ci := 4) (v := .int (nI 0)) (ty := .int) (C := RX4) (T := TX4) (N := 11) hx hb hts in_X4 tyX4 tyX4_ok nmX4 hown hK hP hD hS 0 rfl rfl 0 (by decide) k_f25 (fun _ h9 => h9) rfl (by decide +kernel) rfl rfl (Nat.le_of_ble_eq_true rfl) dX4_cloud_2 (fun H locs hP hD hS => ?_)
  have hP : mP G b (va_up mi 0 (nI 0)) ma H := hP
  have hD : va_D A (mW G b (va_up mi 0 (nI 0)) ma) := hD
  refine lv_aload_n hx hb dX4_cloud_5 rfl (lv_at hl 0 rfl) ?_
  refine lv_iload_n hx hb dX4_cloud_6 rfl (lv_at hl 1 rfl) ?_
  refine x_rd (va_runV (As := [.int x1]) (rest := []) hC (c_X4_isStation hP hmn) (cwV 1 hts gX4_cloud_X4_isStation rfl rfl rfl qdX4_isStation ⟨Nat.le_of_ble_eq_true rfl, Nat.le_of_ble_eq_true rfl⟩) (x_preV hK (x_recv hK (hP 0 _ rfl) rfl)) rfl rfl hl.1 rfl (lv_room (Nat.le_of_ble_eq_true rfl)) dX4_cloud_7 ⟨Nat.le_of_ble_eq_true rfl, Nat.le_of_ble_eq_true rfl⟩) ?_
  refine W.eq (g2 := F0 m 10 ls [.int (bI (vS n x1))]) rfl ?_
  refine x_if_neB (tgt := 19) hx hb dX4_cloud_10 (by decide) (fun c_1 => ?_) (fun c_1 => ?_)
  · obtain ⟨i, hi, rfl⟩ := inR_nat (show n < 2 ^ 30 by omega) c_1
    have hc := hg.c hi
    have hc4 := hg.c4 hi
    refine lv_iload_n hx hb dX4_cloud_19 rfl (lv_at hl 2 rfl) ?_
    refine lv_if_lt (tgt := 28) hx hb dX4_cloud_20 (by decide) (fun c_2 => ?_) (fun c_2 => ?_)
    · refine lv_aload_n hx hb dX4_cloud_28 rfl (lv_at hl 0 rfl) ?_
      refine lv_iconst (v := nI 2) hx hb dX4_cloud_29 (by decide +kernel) ?_
      refine x_runi (va_runV (As := [.int (nI 2)]) (rest := []) hC (c_X4_fail hP hD) (cwV 1 hts gX4_cloud_X4_fail rfl rfl rfl qdX4_fail ⟨Nat.le_of_ble_eq_true rfl, Nat.le_of_ble_eq_true rfl⟩) (x_preV hK (x_recv hK (hP 0 _ rfl) rfl)) rfl rfl hl.1 rfl (lv_room (Nat.le_of_ble_eq_true rfl)) dX4_cloud_30 ⟨Nat.le_of_ble_eq_true rfl, Nat.le_of_ble_eq_true rfl⟩) hS (fun _ h => h) (fun r_3 H locs hfr hΦ hS => ?_)
      obtain ⟨er_3, hP⟩ := hΦ
      rw [er_3]
      have hP : mP G b (va_up mi 0 (nI 2)) ma H := hP
      have hD : va_D A (mW G b (va_up mi 0 (nI 2)) ma) := hD.same rfl
      have hkk9 : k3 (vS n (nI i)) (cB x2 x3) (decide (¬ nc (ma 0) (nI i).toNatClampNeg = 4)) = 2 := by simp only [k3, cB, Bool.and_true, Bool.true_and, Bool.and_false, Bool.false_and, Bool.not_true, Bool.not_false, c_1, decide_eq_true c_2] <;> rfl
      have hkn9 : ¬ k3 (vS n (nI i)) (cB x2 x3) (decide (¬ nc (ma 0) (nI i).toNatClampNeg = 4)) = 0 := by rw [hkk9]; decide
      exact x_iret hQ hx hb hr rfl hlk hS.2.2 dX4_cloud_33 ⟨hS.fr, mQ_mk (k0 := 2) hkk9 hP rfl (hmn) (hmh) (by rw [if_neg hkn9] <;> rfl) (rfl) (fun z => absurd z (by decide))⟩
    · refine lv_iload_n hx hb dX4_cloud_23 rfl (lv_at hl 3 rfl) ?_
      refine lv_iload_n hx hb dX4_cloud_24 rfl (lv_at hl 2 rfl) ?_
      refine lv_icmp_gt (tgt := 34) hx hb dX4_cloud_25 (by decide) (fun c_4 => ?_) (fun c_4 => ?_)
      · refine lv_aload_n hx hb dX4_cloud_34 rfl (lv_at hl 0 rfl) ?_
        refine lv_iload_n hx hb dX4_cloud_35 rfl (lv_at hl 1 rfl) ?_
        refine lv_iconst (v := nI 4) hx hb dX4_cloud_36 (by decide +kernel) ?_
        refine x_rd (va_runV (As := [.int (nI i), .int (nI 4)]) (rest := []) hC (c_X4_get hP (by omega) (by omega)) (cwV 2 hts gX4_cloud_X4_get rfl rfl rfl qdX4_get ⟨Nat.le_of_ble_eq_true rfl, Nat.le_of_ble_eq_true rfl⟩) (x_preV hK (x_recv hK (hP 0 _ rfl) rfl)) rfl rfl hl.1 rfl (lv_room (Nat.le_of_ble_eq_true rfl)) dX4_cloud_37 ⟨Nat.le_of_ble_eq_true rfl, Nat.le_of_ble_eq_true rfl⟩) ?_
        refine W.eq (g2 := F0 m 40 ls [.int (gL (ma 0) i 4)]) rfl ?_
        refine W.eq (g2 := F0 m 40 ls [.int (nI (nc (ma 0) i))]) (congrArg (fun z => F0 m 40 ls (.int z :: [])) (hc)) ?_
        refine lv_istore (lv' := [(4, .int (nI (nc (ma 0) i))), (0, .ref (b 0)), (1, .int (nI i)), (2, .int x2), (3, .int x3)]) hx hb dX4_cloud_40 hl (by decide) rfl (fun ls hl => ?_)
        refine lv_iload hx hb dX4_cloud_42 (lv_at hl 0 rfl) ?_
        refine lv_iconst (v := nI 4) hx hb dX4_cloud_44 (by decide +kernel) ?_
        refine x_icmp_ne (tgt := 54) hx hb (by omega) (by omega) dX4_cloud_45 (by decide) (fun c_5 => ?_) (fun c_5 => ?_)
        · refine lv_aload_n hx hb dX4_cloud_54 rfl (lv_at hl 1 rfl) ?_
          refine lv_iload_n hx hb dX4_cloud_55 rfl (lv_at hl 2 rfl) ?_
          refine lv_iconst (v := nI 5) hx hb dX4_cloud_56 (by decide +kernel) ?_
          refine lv_iconst (v := nI 2) hx hb dX4_cloud_57 (by decide +kernel) ?_
          refine lv_iload hx hb dX4_cloud_58 (lv_at hl 0 rfl) ?_
          refine x_imulN hx hb dX4_cloud_60 ?_
          refine x_iaddN hx hb dX4_cloud_61 ?_
          refine lv_iload_n hx hb dX4_cloud_62 rfl (lv_at hl 3 rfl) ?_
          refine x_runv (va_runV (As := [.int (nI i), .int (nI (5 + (2 * (nc (ma 0) i)))), .int x2]) (rest := []) hC (c_X4_set hP hD (by omega) (by omega)) (cwV 3 hts gX4_cloud_X4_set rfl rfl rfl qdX4_set ⟨Nat.le_of_ble_eq_true rfl, Nat.le_of_ble_eq_true rfl⟩) (x_preV hK (x_recv hK (hP 0 _ rfl) rfl)) rfl rfl hl.1 rfl (lv_room (Nat.le_of_ble_eq_true rfl)) dX4_cloud_63 ⟨Nat.le_of_ble_eq_true rfl, Nat.le_of_ble_eq_true rfl⟩) hS (fun _ h => h) (fun H locs hfr hΦ hS => ?_)
          have hP : mP G b (va_up mi 0 (nI 0)) (va_up ma 0 (upd (ma 0) (13 * i + (5 + (2 * (nc (ma 0) i)))) x2)) H := hΦ
          have hD : va_D A (mW G b (va_up mi 0 (nI 0)) (va_up ma 0 (upd (ma 0) (13 * i + (5 + (2 * (nc (ma 0) i)))) x2))) := hD.same rfl
          refine lv_aload_n hx hb dX4_cloud_66 rfl (lv_at hl 1 rfl) ?_
          refine lv_iload_n hx hb dX4_cloud_67 rfl (lv_at hl 2 rfl) ?_
          refine lv_iconst (v := nI 5) hx hb dX4_cloud_68 (by decide +kernel) ?_
          refine lv_iconst (v := nI 2) hx hb dX4_cloud_69 (by decide +kernel) ?_
          refine lv_iload hx hb dX4_cloud_70 (lv_at hl 0 rfl) ?_
          refine x_imulN hx hb dX4_cloud_72 ?_
          refine x_iaddN hx hb dX4_cloud_73 ?_
          refine lv_iconst (v := nI 1) hx hb dX4_cloud_74 (by decide +kernel) ?_
          refine x_iaddN hx hb dX4_cloud_75 ?_
          refine lv_iload_n hx hb dX4_cloud_76 rfl (lv_at hl 4 rfl) ?_
          refine x_runv (va_runV (As := [.int (nI i), .int (nI ((5 + (2 * (nc (ma 0) i))) + 1)), .int x3]) (rest := []) hC (c_X4_set hP hD (by omega) (by omega)) (cwV 3 hts gX4_cloud_X4_set rfl rfl rfl qdX4_set ⟨Nat.le_of_ble_eq_true rfl, Nat.le_of_ble_eq_true rfl⟩) (x_preV hK (x_recv hK (hP 0 _ rfl) rfl)) rfl rfl hl.1 rfl (lv_room (Nat.le_of_ble_eq_true rfl)) dX4_cloud_77 ⟨Nat.le_of_ble_eq_true rfl, Nat.le_of_ble_eq_true rfl⟩) hS (fun _ h => h) (fun H locs hfr hΦ hS => ?_)
          have hP : mP G b (va_up mi 0 (nI 0)) (va_up ma 0 (upd (upd (ma 0) (13 * i + (5 + (2 * (nc (ma 0) i)))) x2) (13 * i + ((5 + (2 * (nc (ma 0) i))) + 1)) x3)) H := hΦ
          have hD : va_D A (mW G b (va_up mi 0 (nI 0)) (va_up ma 0 (upd (upd (ma 0) (13 * i + (5 + (2 * (nc (ma 0) i)))) x2) (13 * i + ((5 + (2 * (nc (ma 0) i))) + 1)) x3))) := hD.same rfl
          refine lv_aload_n hx hb dX4_cloud_80 rfl (lv_at hl 1 rfl) ?_
          refine lv_iload_n hx hb dX4_cloud_81 rfl (lv_at hl 2 rfl) ?_
          refine lv_iconst (v := nI 4) hx hb dX4_cloud_82 (by decide +kernel) ?_
          refine lv_iload hx hb dX4_cloud_83 (lv_at hl 0 rfl) ?_
          refine lv_iconst (v := nI 1) hx hb dX4_cloud_85 (by decide +kernel) ?_
          refine x_iaddN hx hb dX4_cloud_86 ?_
          refine x_runv (va_runV (As := [.int (nI i), .int (nI 4), .int (nI ((nc (ma 0) i) + 1))]) (rest := []) hC (c_X4_set hP hD (by omega) (by omega)) (cwV 3 hts gX4_cloud_X4_set rfl rfl rfl qdX4_set ⟨Nat.le_of_ble_eq_true rfl, Nat.le_of_ble_eq_true rfl⟩) (x_preV hK (x_recv hK (hP 0 _ rfl) rfl)) rfl rfl hl.1 rfl (lv_room (Nat.le_of_ble_eq_true rfl)) dX4_cloud_87 ⟨Nat.le_of_ble_eq_true rfl, Nat.le_of_ble_eq_true rfl⟩) hS (fun _ h => h) (fun H locs hfr hΦ hS => ?_)
          have hP : mP G b (va_up mi 0 (nI 0)) (va_up ma 0 (upd (upd (upd (ma 0) (13 * i + (5 + (2 * (nc (ma 0) i)))) x2) (13 * i + ((5 + (2 * (nc (ma 0) i))) + 1)) x3) (13 * i + 4) (nI ((nc (ma 0) i) + 1)))) H := hΦ
          have hD : va_D A (mW G b (va_up mi 0 (nI 0)) (va_up ma 0 (upd (upd (upd (ma 0) (13 * i + (5 + (2 * (nc (ma 0) i)))) x2) (13 * i + ((5 + (2 * (nc (ma 0) i))) + 1)) x3) (13 * i + 4) (nI ((nc (ma 0) i) + 1))))) := hD.same rfl
          refine lv_iload hx hb dX4_cloud_90 (lv_at hl 0 rfl) ?_
          refine lv_iconst (v := nI 1) hx hb dX4_cloud_92 (by decide +kernel) ?_
          refine x_iaddN hx hb dX4_cloud_93 ?_
          have hkk9 : k3 (vS n (nI i)) (cB x2 x3) (decide (¬ nc (ma 0) (nI i).toNatClampNeg = 4)) = 0 := by simp only [k3, cB, Bool.and_true, Bool.true_and, Bool.and_false, Bool.false_and, Bool.not_true, Bool.not_false, c_1, decide_eq_false c_2, decide_eq_true c_4, nI_clamp (show i < 2 ^ 31 by omega), decide_eq_true c_5] <;> rfl
          exact x_iret hQ hx hb hr rfl hlk hS.2.2 dX4_cloud_94 ⟨hS.fr, mQ_mk (k0 := 0) hkk9 hP rfl (hmn) (hmh) (by rw [if_pos hkk9, nI_clamp (show i < 2 ^ 31 by omega)] <;> rfl) (rfl) (fun _ => by rw [nI_clamp (show i < 2 ^ 31 by omega)])⟩
        · refine lv_aload_n hx hb dX4_cloud_48 rfl (lv_at hl 1 rfl) ?_
          refine lv_iconst (v := nI 3) hx hb dX4_cloud_49 (by decide +kernel) ?_
          refine x_runi (va_runV (As := [.int (nI 3)]) (rest := []) hC (c_X4_fail hP hD) (cwV 1 hts gX4_cloud_X4_fail rfl rfl rfl qdX4_fail ⟨Nat.le_of_ble_eq_true rfl, Nat.le_of_ble_eq_true rfl⟩) (x_preV hK (x_recv hK (hP 0 _ rfl) rfl)) rfl rfl hl.1 rfl (lv_room (Nat.le_of_ble_eq_true rfl)) dX4_cloud_50 ⟨Nat.le_of_ble_eq_true rfl, Nat.le_of_ble_eq_true rfl⟩) hS (fun _ h => h) (fun r_6 H locs hfr hΦ hS => ?_)
          obtain ⟨er_6, hP⟩ := hΦ
          rw [er_6]
          have hP : mP G b (va_up mi 0 (nI 3)) ma H := hP
          have hD : va_D A (mW G b (va_up mi 0 (nI 3)) ma) := hD.same rfl
          have hkk9 : k3 (vS n (nI i)) (cB x2 x3) (decide (¬ nc (ma 0) (nI i).toNatClampNeg = 4)) = 3 := by simp only [k3, cB, Bool.and_true, Bool.true_and, Bool.and_false, Bool.false_and, Bool.not_true, Bool.not_false, c_1, decide_eq_false c_2, decide_eq_true c_4, nI_clamp (show i < 2 ^ 31 by omega), decide_eq_false (not_not_intro c_5)] <;> rfl
          have hkn9 : ¬ k3 (vS n (nI i)) (cB x2 x3) (decide (¬ nc (ma 0) (nI i).toNatClampNeg = 4)) = 0 := by rw [hkk9]; decide
          exact x_iret hQ hx hb hr rfl hlk hS.2.2 dX4_cloud_53 ⟨hS.fr, mQ_mk (k0 := 3) hkk9 hP rfl (hmn) (hmh) (by rw [if_neg hkn9] <;> rfl) (rfl) (fun z => absurd z (by decide))⟩
      · refine lv_aload_n hx hb dX4_cloud_28 rfl (lv_at hl 0 rfl) ?_
        refine lv_iconst (v := nI 2) hx hb dX4_cloud_29 (by decide +kernel) ?_
        refine x_runi (va_runV (As := [.int (nI 2)]) (rest := []) hC (c_X4_fail hP hD) (cwV 1 hts gX4_cloud_X4_fail rfl rfl rfl qdX4_fail ⟨Nat.le_of_ble_eq_true rfl, Nat.le_of_ble_eq_true rfl⟩) (x_preV hK (x_recv hK (hP 0 _ rfl) rfl)) rfl rfl hl.1 rfl (lv_room (Nat.le_of_ble_eq_true rfl)) dX4_cloud_30 ⟨Nat.le_of_ble_eq_true rfl, Nat.le_of_ble_eq_true rfl⟩) hS (fun _ h => h) (fun r_7 H locs hfr hΦ hS => ?_)
        obtain ⟨er_7, hP⟩ := hΦ
        rw [er_7]
        have hP : mP G b (va_up mi 0 (nI 2)) ma H := hP
        have hD : va_D A (mW G b (va_up mi 0 (nI 2)) ma) := hD.same rfl
        have hkk9 : k3 (vS n (nI i)) (cB x2 x3) (decide (¬ nc (ma 0) (nI i).toNatClampNeg = 4)) = 2 := by simp only [k3, cB, Bool.and_true, Bool.true_and, Bool.and_false, Bool.false_and, Bool.not_true, Bool.not_false, c_1, decide_eq_false c_2, decide_eq_false c_4] <;> rfl
        have hkn9 : ¬ k3 (vS n (nI i)) (cB x2 x3) (decide (¬ nc (ma 0) (nI i).toNatClampNeg = 4)) = 0 := by rw [hkk9]; decide
        exact x_iret hQ hx hb hr rfl hlk hS.2.2 dX4_cloud_33 ⟨hS.fr, mQ_mk (k0 := 2) hkk9 hP rfl (hmn) (hmh) (by rw [if_neg hkn9] <;> rfl) (rfl) (fun z => absurd z (by decide))⟩
  · refine lv_aload_n hx hb dX4_cloud_13 rfl (lv_at hl 0 rfl) ?_
    refine lv_iconst (v := nI 1) hx hb dX4_cloud_14 (by decide +kernel) ?_
    refine x_runi (va_runV (As := [.int (nI 1)]) (rest := []) hC (c_X4_fail hP hD) (cwV 1 hts gX4_cloud_X4_fail rfl rfl rfl qdX4_fail ⟨Nat.le_of_ble_eq_true rfl, Nat.le_of_ble_eq_true rfl⟩) (x_preV hK (x_recv hK (hP 0 _ rfl) rfl)) rfl rfl hl.1 rfl (lv_room (Nat.le_of_ble_eq_true rfl)) dX4_cloud_15 ⟨Nat.le_of_ble_eq_true rfl, Nat.le_of_ble_eq_true rfl⟩) hS (fun _ h => h) (fun r_8 H locs hfr hΦ hS => ?_)
    obtain ⟨er_8, hP⟩ := hΦ
    rw [er_8]
    have hP : mP G b (va_up mi 0 (nI 1)) ma H := hP
    have hD : va_D A (mW G b (va_up mi 0 (nI 1)) ma) := hD.same rfl
    have hkk9 : k3 (vS n x1) (cB x2 x3) (decide (¬ nc (ma 0) x1.toNatClampNeg = 4)) = 1 := by simp only [k3, cB, Bool.and_true, Bool.true_and, Bool.and_false, Bool.false_and, Bool.not_true, Bool.not_false, c_1] <;> rfl
    have hkn9 : ¬ k3 (vS n x1) (cB x2 x3) (decide (¬ nc (ma 0) x1.toNatClampNeg = 4)) = 0 := by rw [hkk9]; decide
    exact x_iret hQ hx hb hr rfl hlk hS.2.2 dX4_cloud_18 ⟨hS.fr, mQ_mk (k0 := 1) hkk9 hP rfl (hmn) (hmh) (by rw [if_neg hkn9] <;> rfl) (rfl) (fun z => absurd z (by decide))⟩
abbrev rmX4_station : Room := { frames := 5, cells := 0, slots := 0, locals := 115 }
theorem qdX4_station : yX4_station.cls = RX4 ∧ yX4_station.cls ≠ "java/lang/invoke/MethodHandle" ∧ yX4_station.cls ≠ "java/lang/invoke/VarHandle" ∧ (parseMethodDescriptor yX4_station.desc).map (fun d => d.parameters.length) = some 2 := by decide +kernel
set_option maxHeartbeats 4000000 in
set_option maxRecDepth 100000 in
theorem c_X4_station {l : Launch} {G : gT} {A : Nat → Prop} {b : Nat → Nat} {mi : Nat → Int32} {ma : Nat → Nat → Int32} {H0 : Heap} {n hn : Nat} {x1 x2 : Int32} (hP : mP G b mi ma H0) (hD : va_D A (mW G b mi ma)) (hmn : mi 1 = nI n) (hmh : mi 2 = nI hn) (hg : OK n hn (ma 0) (ma 1)) : WrI G l yX4_station wsX4_station rmX4_station [.ref (b 0), .int x1, .int x2] H0 A (fun r H1 => mQ G b n hn (ma 0) (ma 1) (k1 (vS n x1 && inR (nI 0) (nI 5) x2)) (if x2.toNatClampNeg < 5 then gL (ma 0) x1.toNatClampNeg x2.toNatClampNeg else nI (cnt (fun j => see (ma 0) (ma 1) j x1.toNatClampNeg) hn)) r H1) := by
  refine x_head (bytes := cX4_station) (maxL := 3) (ret := (some .int)) (by decide) rfl (Nat.le_of_ble_eq_true rfl) ?_
  intro p e s m below meth c ls hx hb hml hown hts hr hlk hnm hK hs0 hl Q hQ
  have hl : lv_has ls 3 [(0, .ref (b 0)), (1, .int x1), (2, .int x2)] := hl
  have hC : CallFix p m c cX4_station 3 s [.ref (b 0), .int x1, .int x2].toArray wsX4_station RX4 := ⟨hx, hb, hml, hown, hts⟩
  have k_f25 := hts (.fieldLink RX4 25 "SundogLineModel" "thrown" "I") (by decide +kernel)
  have in_X4 : ∀ w ∈ u_ws RX4 TX4 11, w ∈ wsX4_station := by decide +kernel
  have hS : va_S A H0 H0 [] := va_S.rf
  have hn12 := hg.n
  have hh16 := hg.hn
  refine lv_aload_n hx hb dX4_station_0 rfl (lv_at hl 0 rfl) ?_
  refine lv_iconst (v := nI 0) hx hb dX4_station_1 (by decide +kernel) ?_
  refine va_put (D := gD G) (ci := 4) (v := .int (nI 0)) (ty := .int) (C := RX4) (T := TX4) (N := 11) hx hb hts in_X4 tyX4 tyX4_ok nmX4 hown hK hP hD hS 0 rfl rfl 0 (by decide) k_f25 (fun _ h9 => h9) rfl (by decide +kernel) rfl rfl (Nat.le_of_ble_eq_true rfl) dX4_station_2 (fun H locs hP hD hS => ?_)
  have hP : mP G b (va_up mi 0 (nI 0)) ma H := hP
  have hD : va_D A (mW G b (va_up mi 0 (nI 0)) ma) := hD
  refine lv_aload_n hx hb dX4_station_5 rfl (lv_at hl 0 rfl) ?_
  refine lv_iload_n hx hb dX4_station_6 rfl (lv_at hl 1 rfl) ?_
  refine x_rd (va_runV (As := [.int x1]) (rest := []) hC (c_X4_isStation hP hmn) (cwV 1 hts gX4_station_X4_isStation rfl rfl rfl qdX4_isStation ⟨Nat.le_of_ble_eq_true rfl, Nat.le_of_ble_eq_true rfl⟩) (x_preV hK (x_recv hK (hP 0 _ rfl) rfl)) rfl rfl hl.1 rfl (lv_room (Nat.le_of_ble_eq_true rfl)) dX4_station_7 ⟨Nat.le_of_ble_eq_true rfl, Nat.le_of_ble_eq_true rfl⟩) ?_
  refine W.eq (g2 := F0 m 10 ls [.int (bI (vS n x1))]) rfl ?_
  refine x_if_eqB (tgt := 31) hx hb dX4_station_10 (by decide) (fun c_1 => ?_) (fun c_1 => ?_)
  · refine lv_aload_n hx hb dX4_station_31 rfl (lv_at hl 0 rfl) ?_
    refine lv_iconst (v := nI 1) hx hb dX4_station_32 (by decide +kernel) ?_
    refine x_runi (va_runV (As := [.int (nI 1)]) (rest := []) hC (c_X4_fail hP hD) (cwV 1 hts gX4_station_X4_fail rfl rfl rfl qdX4_fail ⟨Nat.le_of_ble_eq_true rfl, Nat.le_of_ble_eq_true rfl⟩) (x_preV hK (x_recv hK (hP 0 _ rfl) rfl)) rfl rfl hl.1 rfl (lv_room (Nat.le_of_ble_eq_true rfl)) dX4_station_33 ⟨Nat.le_of_ble_eq_true rfl, Nat.le_of_ble_eq_true rfl⟩) hS (fun _ h => h) (fun r_2 H locs hfr hΦ hS => ?_)
    obtain ⟨er_2, hP⟩ := hΦ
    rw [er_2]
    have hP : mP G b (va_up mi 0 (nI 1)) ma H := hP
    have hD : va_D A (mW G b (va_up mi 0 (nI 1)) ma) := hD.same rfl
    have hkk9 : k1 (vS n x1 && inR (nI 0) (nI 5) x2) = 1 := by simp only [k1, k2, k3, Bool.and_true, Bool.true_and, Bool.and_false, Bool.false_and, Bool.not_true, Bool.not_false, c_1] <;> rfl
    have hkn9 : ¬ k1 (vS n x1 && inR (nI 0) (nI 5) x2) = 0 := by rw [hkk9]; decide
    exact x_iret hQ hx hb hr rfl hlk hS.2.2 dX4_station_36 ⟨hS.fr, mQ_mk (k0 := 1) hkk9 hP rfl (hmn) (hmh) (rfl) (rfl) (fun z => absurd z (by decide))⟩
  · refine lv_iload_n hx hb dX4_station_13 rfl (lv_at hl 2 rfl) ?_
    refine lv_iconst (v := nI 0) hx hb dX4_station_14 (by decide +kernel) ?_
    refine lv_iconst (v := nI 5) hx hb dX4_station_15 (by decide +kernel) ?_
    refine x_rd (va_runS (As := [.int x2, .int (nI 0), .int (nI 5)]) (rest := []) hC (c_X4_isIn) (cwS 3 hts gX4_station_X4_isIn rfl rfl rfl qdX4_isIn ⟨Nat.le_of_ble_eq_true rfl, Nat.le_of_ble_eq_true rfl⟩) (x_preS hK) rfl rfl hl.1 rfl (lv_room (Nat.le_of_ble_eq_true rfl)) dX4_station_16 ⟨Nat.le_of_ble_eq_true rfl, Nat.le_of_ble_eq_true rfl⟩) ?_
    refine W.eq (g2 := F0 m 19 ls [.int (bI (inR (nI 0) (nI 5) x2))]) rfl ?_
    refine x_if_eqB (tgt := 31) hx hb dX4_station_19 (by decide) (fun c_3 => ?_) (fun c_3 => ?_)
    · refine lv_aload_n hx hb dX4_station_31 rfl (lv_at hl 0 rfl) ?_
      refine lv_iconst (v := nI 1) hx hb dX4_station_32 (by decide +kernel) ?_
      refine x_runi (va_runV (As := [.int (nI 1)]) (rest := []) hC (c_X4_fail hP hD) (cwV 1 hts gX4_station_X4_fail rfl rfl rfl qdX4_fail ⟨Nat.le_of_ble_eq_true rfl, Nat.le_of_ble_eq_true rfl⟩) (x_preV hK (x_recv hK (hP 0 _ rfl) rfl)) rfl rfl hl.1 rfl (lv_room (Nat.le_of_ble_eq_true rfl)) dX4_station_33 ⟨Nat.le_of_ble_eq_true rfl, Nat.le_of_ble_eq_true rfl⟩) hS (fun _ h => h) (fun r_4 H locs hfr hΦ hS => ?_)
      obtain ⟨er_4, hP⟩ := hΦ
      rw [er_4]
      have hP : mP G b (va_up mi 0 (nI 1)) ma H := hP
      have hD : va_D A (mW G b (va_up mi 0 (nI 1)) ma) := hD.same rfl
      have hkk9 : k1 (vS n x1 && inR (nI 0) (nI 5) x2) = 1 := by simp only [k1, k2, k3, Bool.and_true, Bool.true_and, Bool.and_false, Bool.false_and, Bool.not_true, Bool.not_false, c_1, c_3] <;> rfl
      have hkn9 : ¬ k1 (vS n x1 && inR (nI 0) (nI 5) x2) = 0 := by rw [hkk9]; decide
      exact x_iret hQ hx hb hr rfl hlk hS.2.2 dX4_station_36 ⟨hS.fr, mQ_mk (k0 := 1) hkk9 hP rfl (hmn) (hmh) (rfl) (rfl) (fun z => absurd z (by decide))⟩
    · obtain ⟨i, hi, rfl⟩ := inR_nat (show n < 2 ^ 30 by omega) c_1
      obtain ⟨kk, hkk, rfl⟩ := inR_natL (n := 5) (by decide) c_3
      refine lv_aload_n hx hb dX4_station_22 rfl (lv_at hl 0 rfl) ?_
      refine lv_iload_n hx hb dX4_station_23 rfl (lv_at hl 1 rfl) ?_
      refine lv_iload_n hx hb dX4_station_24 rfl (lv_at hl 2 rfl) ?_
      refine x_rd (va_runV (As := [.int (nI i), .int (nI kk)]) (rest := []) hC (c_X4_stationTold hP hg (by omega) hmh (by omega)) (cwV 2 hts gX4_station_X4_stationTold rfl rfl rfl qdX4_stationTold ⟨Nat.le_of_ble_eq_true rfl, Nat.le_of_ble_eq_true rfl⟩) (x_preV hK (x_recv hK (hP 0 _ rfl) rfl)) rfl rfl hl.1 rfl (lv_room (Nat.le_of_ble_eq_true rfl)) dX4_station_25 ⟨Nat.le_of_ble_eq_true rfl, Nat.le_of_ble_eq_true rfl⟩) ?_
      refine W.eq (g2 := F0 m 28 ls [.int ((if kk < 5 then gL (ma 0) i kk else nI (cnt (fun j => see (ma 0) (ma 1) j i) hn)))]) rfl ?_
      refine lv_goto (tgt := 36) hx hb dX4_station_28 (by decide) ?_
      have hkk9 : k1 (vS n (nI i) && inR (nI 0) (nI 5) (nI kk)) = 0 := by simp only [k1, k2, k3, Bool.and_true, Bool.true_and, Bool.and_false, Bool.false_and, Bool.not_true, Bool.not_false, c_1, c_3] <;> rfl
      exact x_iret hQ hx hb hr rfl hlk hS.2.2 dX4_station_36 ⟨hS.fr, mQ_mk (k0 := 0) hkk9 hP rfl (hmn) (hmh) (rfl) (rfl) (fun _ => by rw [nI_clamp (show i < 2 ^ 31 by omega), nI_clamp (show kk < 2 ^ 31 by omega)])⟩
abbrev rmX4_clock : Room := { frames := 2, cells := 0, slots := 0, locals := 44 }
theorem qdX4_clock : yX4_clock.cls = RX4 ∧ yX4_clock.cls ≠ "java/lang/invoke/MethodHandle" ∧ yX4_clock.cls ≠ "java/lang/invoke/VarHandle" ∧ (parseMethodDescriptor yX4_clock.desc).map (fun d => d.parameters.length) = some 2 := by decide +kernel
set_option maxHeartbeats 4000000 in
set_option maxRecDepth 100000 in
theorem c_X4_clock {l : Launch} {G : gT} {A : Nat → Prop} {b : Nat → Nat} {mi : Nat → Int32} {ma : Nat → Nat → Int32} {H0 : Heap} {n hn : Nat} {x1 x2 : Int32} (hP : mP G b mi ma H0) (hD : va_D A (mW G b mi ma)) (hmn : mi 1 = nI n) (hmh : mi 2 = nI hn) (hg : OK n hn (ma 0) (ma 1)) : WrI G l yX4_clock wsX4_clock rmX4_clock [.ref (b 0), .int x1, .int x2] H0 A (fun r H1 => mQ G b n hn (ma 0) (ma 1) (k2 (vS n x1) (isT x2)) (clk (ma 0) x1.toNatClampNeg x2) r H1) := by
  refine x_head (bytes := cX4_clock) (maxL := 3) (ret := (some .int)) (by decide) rfl (Nat.le_of_ble_eq_true rfl) ?_
  intro p e s m below meth c ls hx hb hml hown hts hr hlk hnm hK hs0 hl Q hQ
  have hl : lv_has ls 3 [(0, .ref (b 0)), (1, .int x1), (2, .int x2)] := hl
  have hC : CallFix p m c cX4_clock 3 s [.ref (b 0), .int x1, .int x2].toArray wsX4_clock RX4 := ⟨hx, hb, hml, hown, hts⟩
  have k_f25 := hts (.fieldLink RX4 25 "SundogLineModel" "thrown" "I") (by decide +kernel)
  have in_X4 : ∀ w ∈ u_ws RX4 TX4 11, w ∈ wsX4_clock := by decide +kernel
  have hS : va_S A H0 H0 [] := va_S.rf
  have hn12 := hg.n
  have hh16 := hg.hn
  refine lv_aload_n hx hb dX4_clock_0 rfl (lv_at hl 0 rfl) ?_
  refine lv_iconst (v := nI 0) hx hb dX4_clock_1 (by decide +kernel) ?_
  refine va_put (D := gD G) (ci := 4) (v := .int (nI 0)) (ty := .int) (C := RX4) (T := TX4) (N := 11) hx hb hts in_X4 tyX4 tyX4_ok nmX4 hown hK hP hD hS 0 rfl rfl 0 (by decide) k_f25 (fun _ h9 => h9) rfl (by decide +kernel) rfl rfl (Nat.le_of_ble_eq_true rfl) dX4_clock_2 (fun H locs hP hD hS => ?_)
  have hP : mP G b (va_up mi 0 (nI 0)) ma H := hP
  have hD : va_D A (mW G b (va_up mi 0 (nI 0)) ma) := hD
  refine lv_aload_n hx hb dX4_clock_5 rfl (lv_at hl 0 rfl) ?_
  refine lv_iload_n hx hb dX4_clock_6 rfl (lv_at hl 1 rfl) ?_
  refine x_rd (va_runV (As := [.int x1]) (rest := []) hC (c_X4_isStation hP hmn) (cwV 1 hts gX4_clock_X4_isStation rfl rfl rfl qdX4_isStation ⟨Nat.le_of_ble_eq_true rfl, Nat.le_of_ble_eq_true rfl⟩) (x_preV hK (x_recv hK (hP 0 _ rfl) rfl)) rfl rfl hl.1 rfl (lv_room (Nat.le_of_ble_eq_true rfl)) dX4_clock_7 ⟨Nat.le_of_ble_eq_true rfl, Nat.le_of_ble_eq_true rfl⟩) ?_
  refine W.eq (g2 := F0 m 10 ls [.int (bI (vS n x1))]) rfl ?_
  refine x_if_neB (tgt := 19) hx hb dX4_clock_10 (by decide) (fun c_1 => ?_) (fun c_1 => ?_)
  · obtain ⟨i, hi, rfl⟩ := inR_nat (show n < 2 ^ 30 by omega) c_1
    refine lv_iload_n hx hb dX4_clock_19 rfl (lv_at hl 2 rfl) ?_
    refine x_rd (va_runS (As := [.int x2]) (rest := []) hC (c_X4_isTime) (cwS 1 hts gX4_clock_X4_isTime rfl rfl rfl qdX4_isTime ⟨Nat.le_of_ble_eq_true rfl, Nat.le_of_ble_eq_true rfl⟩) (x_preS hK) rfl rfl hl.1 rfl (lv_room (Nat.le_of_ble_eq_true rfl)) dX4_clock_20 ⟨Nat.le_of_ble_eq_true rfl, Nat.le_of_ble_eq_true rfl⟩) ?_
    refine W.eq (g2 := F0 m 23 ls [.int (bI (inR (nI 0) (nI 1000000) x2))]) rfl ?_
    refine x_if_eqB (tgt := 35) hx hb dX4_clock_23 (by decide) (fun c_2 => ?_) (fun c_2 => ?_)
    · refine lv_aload_n hx hb dX4_clock_35 rfl (lv_at hl 0 rfl) ?_
      refine lv_iconst (v := nI 2) hx hb dX4_clock_36 (by decide +kernel) ?_
      refine x_runi (va_runV (As := [.int (nI 2)]) (rest := []) hC (c_X4_fail hP hD) (cwV 1 hts gX4_clock_X4_fail rfl rfl rfl qdX4_fail ⟨Nat.le_of_ble_eq_true rfl, Nat.le_of_ble_eq_true rfl⟩) (x_preV hK (x_recv hK (hP 0 _ rfl) rfl)) rfl rfl hl.1 rfl (lv_room (Nat.le_of_ble_eq_true rfl)) dX4_clock_37 ⟨Nat.le_of_ble_eq_true rfl, Nat.le_of_ble_eq_true rfl⟩) hS (fun _ h => h) (fun r_3 H locs hfr hΦ hS => ?_)
      obtain ⟨er_3, hP⟩ := hΦ
      rw [er_3]
      have hP : mP G b (va_up mi 0 (nI 2)) ma H := hP
      have hD : va_D A (mW G b (va_up mi 0 (nI 2)) ma) := hD.same rfl
      have hkk9 : k2 (vS n (nI i)) (isT x2) = 2 := by simp only [k1, k2, k3, Bool.and_true, Bool.true_and, Bool.and_false, Bool.false_and, Bool.not_true, Bool.not_false, c_1, c_2] <;> rfl
      have hkn9 : ¬ k2 (vS n (nI i)) (isT x2) = 0 := by rw [hkk9]; decide
      exact x_iret hQ hx hb hr rfl hlk hS.2.2 dX4_clock_40 ⟨hS.fr, mQ_mk (k0 := 2) hkk9 hP rfl (hmn) (hmh) (rfl) (rfl) (fun z => absurd z (by decide))⟩
    · refine lv_aload_n hx hb dX4_clock_26 rfl (lv_at hl 0 rfl) ?_
      refine lv_iload_n hx hb dX4_clock_27 rfl (lv_at hl 1 rfl) ?_
      refine lv_iload_n hx hb dX4_clock_28 rfl (lv_at hl 2 rfl) ?_
      refine x_rd (va_runV (As := [.int (nI i), .int x2]) (rest := []) hC (c_X4_clockOf hP (by omega)) (cwV 2 hts gX4_clock_X4_clockOf rfl rfl rfl qdX4_clockOf ⟨Nat.le_of_ble_eq_true rfl, Nat.le_of_ble_eq_true rfl⟩) (x_preV hK (x_recv hK (hP 0 _ rfl) rfl)) rfl rfl hl.1 rfl (lv_room (Nat.le_of_ble_eq_true rfl)) dX4_clock_29 ⟨Nat.le_of_ble_eq_true rfl, Nat.le_of_ble_eq_true rfl⟩) ?_
      refine W.eq (g2 := F0 m 32 ls [.int (clk (ma 0) i x2)]) rfl ?_
      refine lv_goto (tgt := 40) hx hb dX4_clock_32 (by decide) ?_
      have hkk9 : k2 (vS n (nI i)) (isT x2) = 0 := by simp only [k1, k2, k3, Bool.and_true, Bool.true_and, Bool.and_false, Bool.false_and, Bool.not_true, Bool.not_false, c_1, c_2] <;> rfl
      exact x_iret hQ hx hb hr rfl hlk hS.2.2 dX4_clock_40 ⟨hS.fr, mQ_mk (k0 := 0) hkk9 hP rfl (hmn) (hmh) (rfl) (rfl) (fun _ => by rw [nI_clamp (show i < 2 ^ 31 by omega)])⟩
  · refine lv_aload_n hx hb dX4_clock_13 rfl (lv_at hl 0 rfl) ?_
    refine lv_iconst (v := nI 1) hx hb dX4_clock_14 (by decide +kernel) ?_
    refine x_runi (va_runV (As := [.int (nI 1)]) (rest := []) hC (c_X4_fail hP hD) (cwV 1 hts gX4_clock_X4_fail rfl rfl rfl qdX4_fail ⟨Nat.le_of_ble_eq_true rfl, Nat.le_of_ble_eq_true rfl⟩) (x_preV hK (x_recv hK (hP 0 _ rfl) rfl)) rfl rfl hl.1 rfl (lv_room (Nat.le_of_ble_eq_true rfl)) dX4_clock_15 ⟨Nat.le_of_ble_eq_true rfl, Nat.le_of_ble_eq_true rfl⟩) hS (fun _ h => h) (fun r_4 H locs hfr hΦ hS => ?_)
    obtain ⟨er_4, hP⟩ := hΦ
    rw [er_4]
    have hP : mP G b (va_up mi 0 (nI 1)) ma H := hP
    have hD : va_D A (mW G b (va_up mi 0 (nI 1)) ma) := hD.same rfl
    have hkk9 : k2 (vS n x1) (isT x2) = 1 := by simp only [k1, k2, k3, Bool.and_true, Bool.true_and, Bool.and_false, Bool.false_and, Bool.not_true, Bool.not_false, c_1] <;> rfl
    have hkn9 : ¬ k2 (vS n x1) (isT x2) = 0 := by rw [hkk9]; decide
    exact x_iret hQ hx hb hr rfl hlk hS.2.2 dX4_clock_18 ⟨hS.fr, mQ_mk (k0 := 1) hkk9 hP rfl (hmn) (hmh) (rfl) (rfl) (fun z => absurd z (by decide))⟩
abbrev rmX4_comes : Room := { frames := 2, cells := 0, slots := 0, locals := 45 }
theorem qdX4_comes : yX4_comes.cls = RX4 ∧ yX4_comes.cls ≠ "java/lang/invoke/MethodHandle" ∧ yX4_comes.cls ≠ "java/lang/invoke/VarHandle" ∧ (parseMethodDescriptor yX4_comes.desc).map (fun d => d.parameters.length) = some 2 := by decide +kernel
set_option maxHeartbeats 4000000 in
set_option maxRecDepth 100000 in
theorem c_X4_comes {l : Launch} {G : gT} {A : Nat → Prop} {b : Nat → Nat} {mi : Nat → Int32} {ma : Nat → Nat → Int32} {H0 : Heap} {n hn : Nat} {x1 x2 : Int32} (hP : mP G b mi ma H0) (hD : va_D A (mW G b mi ma)) (hmn : mi 1 = nI n) (hmh : mi 2 = nI hn) (hg : OK n hn (ma 0) (ma 1)) : WrI G l yX4_comes wsX4_comes rmX4_comes [.ref (b 0), .int x1, .int x2] H0 A (fun r H1 => mQ G b n hn (ma 0) (ma 1) (k1 (vS hn x1 && vS n x2)) (cto (ma 0) (ma 1) x1.toNatClampNeg x2.toNatClampNeg) r H1) := by
  refine x_head (bytes := cX4_comes) (maxL := 3) (ret := (some .int)) (by decide) rfl (Nat.le_of_ble_eq_true rfl) ?_
  intro p e s m below meth c ls hx hb hml hown hts hr hlk hnm hK hs0 hl Q hQ
  have hl : lv_has ls 3 [(0, .ref (b 0)), (1, .int x1), (2, .int x2)] := hl
  have hC : CallFix p m c cX4_comes 3 s [.ref (b 0), .int x1, .int x2].toArray wsX4_comes RX4 := ⟨hx, hb, hml, hown, hts⟩
  have k_f25 := hts (.fieldLink RX4 25 "SundogLineModel" "thrown" "I") (by decide +kernel)
  have in_X4 : ∀ w ∈ u_ws RX4 TX4 11, w ∈ wsX4_comes := by decide +kernel
  have hS : va_S A H0 H0 [] := va_S.rf
  have hn12 := hg.n
  have hh16 := hg.hn
  refine lv_aload_n hx hb dX4_comes_0 rfl (lv_at hl 0 rfl) ?_
  refine lv_iconst (v := nI 0) hx hb dX4_comes_1 (by decide +kernel) ?_
  refine va_put (D := gD G) (ci := 4) (v := .int (nI 0)) (ty := .int) (C := RX4) (T := TX4) (N := 11) hx hb hts in_X4 tyX4 tyX4_ok nmX4 hown hK hP hD hS 0 rfl rfl 0 (by decide) k_f25 (fun _ h9 => h9) rfl (by decide +kernel) rfl rfl (Nat.le_of_ble_eq_true rfl) dX4_comes_2 (fun H locs hP hD hS => ?_)
  have hP : mP G b (va_up mi 0 (nI 0)) ma H := hP
  have hD : va_D A (mW G b (va_up mi 0 (nI 0)) ma) := hD
  refine lv_aload_n hx hb dX4_comes_5 rfl (lv_at hl 0 rfl) ?_
  refine lv_iload_n hx hb dX4_comes_6 rfl (lv_at hl 1 rfl) ?_
  refine x_rd (va_runV (As := [.int x1]) (rest := []) hC (c_X4_isHalo hP hmh) (cwV 1 hts gX4_comes_X4_isHalo rfl rfl rfl qdX4_isHalo ⟨Nat.le_of_ble_eq_true rfl, Nat.le_of_ble_eq_true rfl⟩) (x_preV hK (x_recv hK (hP 0 _ rfl) rfl)) rfl rfl hl.1 rfl (lv_room (Nat.le_of_ble_eq_true rfl)) dX4_comes_7 ⟨Nat.le_of_ble_eq_true rfl, Nat.le_of_ble_eq_true rfl⟩) ?_
  refine W.eq (g2 := F0 m 10 ls [.int (bI (vS hn x1))]) rfl ?_
  refine x_if_eqB (tgt := 30) hx hb dX4_comes_10 (by decide) (fun c_1 => ?_) (fun c_1 => ?_)
  · refine lv_aload_n hx hb dX4_comes_30 rfl (lv_at hl 0 rfl) ?_
    refine lv_iconst (v := nI 1) hx hb dX4_comes_31 (by decide +kernel) ?_
    refine x_runi (va_runV (As := [.int (nI 1)]) (rest := []) hC (c_X4_fail hP hD) (cwV 1 hts gX4_comes_X4_fail rfl rfl rfl qdX4_fail ⟨Nat.le_of_ble_eq_true rfl, Nat.le_of_ble_eq_true rfl⟩) (x_preV hK (x_recv hK (hP 0 _ rfl) rfl)) rfl rfl hl.1 rfl (lv_room (Nat.le_of_ble_eq_true rfl)) dX4_comes_32 ⟨Nat.le_of_ble_eq_true rfl, Nat.le_of_ble_eq_true rfl⟩) hS (fun _ h => h) (fun r_2 H locs hfr hΦ hS => ?_)
    obtain ⟨er_2, hP⟩ := hΦ
    rw [er_2]
    have hP : mP G b (va_up mi 0 (nI 1)) ma H := hP
    have hD : va_D A (mW G b (va_up mi 0 (nI 1)) ma) := hD.same rfl
    have hkk9 : k1 (vS hn x1 && vS n x2) = 1 := by simp only [k1, k2, k3, Bool.and_true, Bool.true_and, Bool.and_false, Bool.false_and, Bool.not_true, Bool.not_false, c_1] <;> rfl
    have hkn9 : ¬ k1 (vS hn x1 && vS n x2) = 0 := by rw [hkk9]; decide
    exact x_iret hQ hx hb hr rfl hlk hS.2.2 dX4_comes_35 ⟨hS.fr, mQ_mk (k0 := 1) hkk9 hP rfl (hmn) (hmh) (rfl) (rfl) (fun z => absurd z (by decide))⟩
  · refine lv_aload_n hx hb dX4_comes_13 rfl (lv_at hl 0 rfl) ?_
    refine lv_iload_n hx hb dX4_comes_14 rfl (lv_at hl 2 rfl) ?_
    refine x_rd (va_runV (As := [.int x2]) (rest := []) hC (c_X4_isStation hP hmn) (cwV 1 hts gX4_comes_X4_isStation rfl rfl rfl qdX4_isStation ⟨Nat.le_of_ble_eq_true rfl, Nat.le_of_ble_eq_true rfl⟩) (x_preV hK (x_recv hK (hP 0 _ rfl) rfl)) rfl rfl hl.1 rfl (lv_room (Nat.le_of_ble_eq_true rfl)) dX4_comes_15 ⟨Nat.le_of_ble_eq_true rfl, Nat.le_of_ble_eq_true rfl⟩) ?_
    refine W.eq (g2 := F0 m 18 ls [.int (bI (vS n x2))]) rfl ?_
    refine x_if_eqB (tgt := 30) hx hb dX4_comes_18 (by decide) (fun c_3 => ?_) (fun c_3 => ?_)
    · refine lv_aload_n hx hb dX4_comes_30 rfl (lv_at hl 0 rfl) ?_
      refine lv_iconst (v := nI 1) hx hb dX4_comes_31 (by decide +kernel) ?_
      refine x_runi (va_runV (As := [.int (nI 1)]) (rest := []) hC (c_X4_fail hP hD) (cwV 1 hts gX4_comes_X4_fail rfl rfl rfl qdX4_fail ⟨Nat.le_of_ble_eq_true rfl, Nat.le_of_ble_eq_true rfl⟩) (x_preV hK (x_recv hK (hP 0 _ rfl) rfl)) rfl rfl hl.1 rfl (lv_room (Nat.le_of_ble_eq_true rfl)) dX4_comes_32 ⟨Nat.le_of_ble_eq_true rfl, Nat.le_of_ble_eq_true rfl⟩) hS (fun _ h => h) (fun r_4 H locs hfr hΦ hS => ?_)
      obtain ⟨er_4, hP⟩ := hΦ
      rw [er_4]
      have hP : mP G b (va_up mi 0 (nI 1)) ma H := hP
      have hD : va_D A (mW G b (va_up mi 0 (nI 1)) ma) := hD.same rfl
      have hkk9 : k1 (vS hn x1 && vS n x2) = 1 := by simp only [k1, k2, k3, Bool.and_true, Bool.true_and, Bool.and_false, Bool.false_and, Bool.not_true, Bool.not_false, c_1, c_3] <;> rfl
      have hkn9 : ¬ k1 (vS hn x1 && vS n x2) = 0 := by rw [hkk9]; decide
      exact x_iret hQ hx hb hr rfl hlk hS.2.2 dX4_comes_35 ⟨hS.fr, mQ_mk (k0 := 1) hkk9 hP rfl (hmn) (hmh) (rfl) (rfl) (fun z => absurd z (by decide))⟩
    · obtain ⟨j, hj, rfl⟩ := inR_nat (show hn < 2 ^ 30 by omega) c_1
      obtain ⟨i, hi, rfl⟩ := inR_nat (show n < 2 ^ 30 by omega) c_3
      have hsp := hg.sp hj
      refine lv_aload_n hx hb dX4_comes_21 rfl (lv_at hl 0 rfl) ?_
      refine lv_iload_n hx hb dX4_comes_22 rfl (lv_at hl 1 rfl) ?_
      refine lv_iload_n hx hb dX4_comes_23 rfl (lv_at hl 2 rfl) ?_
      refine x_rd (va_runV (As := [.int (nI j), .int (nI i)]) (rest := []) hC (c_X4_comesTo hP (by omega) (by omega) hsp) (cwV 2 hts gX4_comes_X4_comesTo rfl rfl rfl qdX4_comesTo ⟨Nat.le_of_ble_eq_true rfl, Nat.le_of_ble_eq_true rfl⟩) (x_preV hK (x_recv hK (hP 0 _ rfl) rfl)) rfl rfl hl.1 rfl (lv_room (Nat.le_of_ble_eq_true rfl)) dX4_comes_24 ⟨Nat.le_of_ble_eq_true rfl, Nat.le_of_ble_eq_true rfl⟩) ?_
      refine W.eq (g2 := F0 m 27 ls [.int (cto (ma 0) (ma 1) j i)]) rfl ?_
      refine lv_goto (tgt := 35) hx hb dX4_comes_27 (by decide) ?_
      have hkk9 : k1 (vS hn (nI j) && vS n (nI i)) = 0 := by simp only [k1, k2, k3, Bool.and_true, Bool.true_and, Bool.and_false, Bool.false_and, Bool.not_true, Bool.not_false, c_1, c_3] <;> rfl
      exact x_iret hQ hx hb hr rfl hlk hS.2.2 dX4_comes_35 ⟨hS.fr, mQ_mk (k0 := 0) hkk9 hP rfl (hmn) (hmh) (rfl) (rfl) (fun _ => by rw [nI_clamp (show i < 2 ^ 31 by omega), nI_clamp (show j < 2 ^ 31 by omega)])⟩
abbrev rmX4_reading : Room := { frames := 4, cells := 0, slots := 0, locals := 92 }
theorem qdX4_reading : yX4_reading.cls = RX4 ∧ yX4_reading.cls ≠ "java/lang/invoke/MethodHandle" ∧ yX4_reading.cls ≠ "java/lang/invoke/VarHandle" ∧ (parseMethodDescriptor yX4_reading.desc).map (fun d => d.parameters.length) = some 2 := by decide +kernel
set_option maxHeartbeats 4000000 in
set_option maxRecDepth 100000 in
theorem c_X4_reading {l : Launch} {G : gT} {A : Nat → Prop} {b : Nat → Nat} {mi : Nat → Int32} {ma : Nat → Nat → Int32} {H0 : Heap} {n hn : Nat} {x1 x2 : Int32} (hP : mP G b mi ma H0) (hD : va_D A (mW G b mi ma)) (hmn : mi 1 = nI n) (hmh : mi 2 = nI hn) (hg : OK n hn (ma 0) (ma 1)) : WrI G l yX4_reading wsX4_reading rmX4_reading [.ref (b 0), .int x1, .int x2] H0 A (fun r H1 => mQ G b n hn (ma 0) (ma 1) (k1 (vS hn x1 && vS n x2)) (rdg (ma 0) (ma 1) x1.toNatClampNeg x2.toNatClampNeg) r H1) := by
  refine x_head (bytes := cX4_reading) (maxL := 3) (ret := (some .int)) (by decide) rfl (Nat.le_of_ble_eq_true rfl) ?_
  intro p e s m below meth c ls hx hb hml hown hts hr hlk hnm hK hs0 hl Q hQ
  have hl : lv_has ls 3 [(0, .ref (b 0)), (1, .int x1), (2, .int x2)] := hl
  have hC : CallFix p m c cX4_reading 3 s [.ref (b 0), .int x1, .int x2].toArray wsX4_reading RX4 := ⟨hx, hb, hml, hown, hts⟩
  have k_f25 := hts (.fieldLink RX4 25 "SundogLineModel" "thrown" "I") (by decide +kernel)
  have in_X4 : ∀ w ∈ u_ws RX4 TX4 11, w ∈ wsX4_reading := by decide +kernel
  have hS : va_S A H0 H0 [] := va_S.rf
  have hn12 := hg.n
  have hh16 := hg.hn
  refine lv_aload_n hx hb dX4_reading_0 rfl (lv_at hl 0 rfl) ?_
  refine lv_iconst (v := nI 0) hx hb dX4_reading_1 (by decide +kernel) ?_
  refine va_put (D := gD G) (ci := 4) (v := .int (nI 0)) (ty := .int) (C := RX4) (T := TX4) (N := 11) hx hb hts in_X4 tyX4 tyX4_ok nmX4 hown hK hP hD hS 0 rfl rfl 0 (by decide) k_f25 (fun _ h9 => h9) rfl (by decide +kernel) rfl rfl (Nat.le_of_ble_eq_true rfl) dX4_reading_2 (fun H locs hP hD hS => ?_)
  have hP : mP G b (va_up mi 0 (nI 0)) ma H := hP
  have hD : va_D A (mW G b (va_up mi 0 (nI 0)) ma) := hD
  refine lv_aload_n hx hb dX4_reading_5 rfl (lv_at hl 0 rfl) ?_
  refine lv_iload_n hx hb dX4_reading_6 rfl (lv_at hl 1 rfl) ?_
  refine x_rd (va_runV (As := [.int x1]) (rest := []) hC (c_X4_isHalo hP hmh) (cwV 1 hts gX4_reading_X4_isHalo rfl rfl rfl qdX4_isHalo ⟨Nat.le_of_ble_eq_true rfl, Nat.le_of_ble_eq_true rfl⟩) (x_preV hK (x_recv hK (hP 0 _ rfl) rfl)) rfl rfl hl.1 rfl (lv_room (Nat.le_of_ble_eq_true rfl)) dX4_reading_7 ⟨Nat.le_of_ble_eq_true rfl, Nat.le_of_ble_eq_true rfl⟩) ?_
  refine W.eq (g2 := F0 m 10 ls [.int (bI (vS hn x1))]) rfl ?_
  refine x_if_eqB (tgt := 30) hx hb dX4_reading_10 (by decide) (fun c_1 => ?_) (fun c_1 => ?_)
  · refine lv_aload_n hx hb dX4_reading_30 rfl (lv_at hl 0 rfl) ?_
    refine lv_iconst (v := nI 1) hx hb dX4_reading_31 (by decide +kernel) ?_
    refine x_runi (va_runV (As := [.int (nI 1)]) (rest := []) hC (c_X4_fail hP hD) (cwV 1 hts gX4_reading_X4_fail rfl rfl rfl qdX4_fail ⟨Nat.le_of_ble_eq_true rfl, Nat.le_of_ble_eq_true rfl⟩) (x_preV hK (x_recv hK (hP 0 _ rfl) rfl)) rfl rfl hl.1 rfl (lv_room (Nat.le_of_ble_eq_true rfl)) dX4_reading_32 ⟨Nat.le_of_ble_eq_true rfl, Nat.le_of_ble_eq_true rfl⟩) hS (fun _ h => h) (fun r_2 H locs hfr hΦ hS => ?_)
    obtain ⟨er_2, hP⟩ := hΦ
    rw [er_2]
    have hP : mP G b (va_up mi 0 (nI 1)) ma H := hP
    have hD : va_D A (mW G b (va_up mi 0 (nI 1)) ma) := hD.same rfl
    have hkk9 : k1 (vS hn x1 && vS n x2) = 1 := by simp only [k1, k2, k3, Bool.and_true, Bool.true_and, Bool.and_false, Bool.false_and, Bool.not_true, Bool.not_false, c_1] <;> rfl
    have hkn9 : ¬ k1 (vS hn x1 && vS n x2) = 0 := by rw [hkk9]; decide
    exact x_iret hQ hx hb hr rfl hlk hS.2.2 dX4_reading_35 ⟨hS.fr, mQ_mk (k0 := 1) hkk9 hP rfl (hmn) (hmh) (rfl) (rfl) (fun z => absurd z (by decide))⟩
  · refine lv_aload_n hx hb dX4_reading_13 rfl (lv_at hl 0 rfl) ?_
    refine lv_iload_n hx hb dX4_reading_14 rfl (lv_at hl 2 rfl) ?_
    refine x_rd (va_runV (As := [.int x2]) (rest := []) hC (c_X4_isStation hP hmn) (cwV 1 hts gX4_reading_X4_isStation rfl rfl rfl qdX4_isStation ⟨Nat.le_of_ble_eq_true rfl, Nat.le_of_ble_eq_true rfl⟩) (x_preV hK (x_recv hK (hP 0 _ rfl) rfl)) rfl rfl hl.1 rfl (lv_room (Nat.le_of_ble_eq_true rfl)) dX4_reading_15 ⟨Nat.le_of_ble_eq_true rfl, Nat.le_of_ble_eq_true rfl⟩) ?_
    refine W.eq (g2 := F0 m 18 ls [.int (bI (vS n x2))]) rfl ?_
    refine x_if_eqB (tgt := 30) hx hb dX4_reading_18 (by decide) (fun c_3 => ?_) (fun c_3 => ?_)
    · refine lv_aload_n hx hb dX4_reading_30 rfl (lv_at hl 0 rfl) ?_
      refine lv_iconst (v := nI 1) hx hb dX4_reading_31 (by decide +kernel) ?_
      refine x_runi (va_runV (As := [.int (nI 1)]) (rest := []) hC (c_X4_fail hP hD) (cwV 1 hts gX4_reading_X4_fail rfl rfl rfl qdX4_fail ⟨Nat.le_of_ble_eq_true rfl, Nat.le_of_ble_eq_true rfl⟩) (x_preV hK (x_recv hK (hP 0 _ rfl) rfl)) rfl rfl hl.1 rfl (lv_room (Nat.le_of_ble_eq_true rfl)) dX4_reading_32 ⟨Nat.le_of_ble_eq_true rfl, Nat.le_of_ble_eq_true rfl⟩) hS (fun _ h => h) (fun r_4 H locs hfr hΦ hS => ?_)
      obtain ⟨er_4, hP⟩ := hΦ
      rw [er_4]
      have hP : mP G b (va_up mi 0 (nI 1)) ma H := hP
      have hD : va_D A (mW G b (va_up mi 0 (nI 1)) ma) := hD.same rfl
      have hkk9 : k1 (vS hn x1 && vS n x2) = 1 := by simp only [k1, k2, k3, Bool.and_true, Bool.true_and, Bool.and_false, Bool.false_and, Bool.not_true, Bool.not_false, c_1, c_3] <;> rfl
      have hkn9 : ¬ k1 (vS hn x1 && vS n x2) = 0 := by rw [hkk9]; decide
      exact x_iret hQ hx hb hr rfl hlk hS.2.2 dX4_reading_35 ⟨hS.fr, mQ_mk (k0 := 1) hkk9 hP rfl (hmn) (hmh) (rfl) (rfl) (fun z => absurd z (by decide))⟩
    · obtain ⟨j, hj, rfl⟩ := inR_nat (show hn < 2 ^ 30 by omega) c_1
      obtain ⟨i, hi, rfl⟩ := inR_nat (show n < 2 ^ 30 by omega) c_3
      have hsp := hg.sp hj
      refine lv_aload_n hx hb dX4_reading_21 rfl (lv_at hl 0 rfl) ?_
      refine lv_iload_n hx hb dX4_reading_22 rfl (lv_at hl 1 rfl) ?_
      refine lv_iload_n hx hb dX4_reading_23 rfl (lv_at hl 2 rfl) ?_
      refine x_rd (va_runV (As := [.int (nI j), .int (nI i)]) (rest := []) hC (c_X4_readingOf hP hg (by omega) (by omega)) (cwV 2 hts gX4_reading_X4_readingOf rfl rfl rfl qdX4_readingOf ⟨Nat.le_of_ble_eq_true rfl, Nat.le_of_ble_eq_true rfl⟩) (x_preV hK (x_recv hK (hP 0 _ rfl) rfl)) rfl rfl hl.1 rfl (lv_room (Nat.le_of_ble_eq_true rfl)) dX4_reading_24 ⟨Nat.le_of_ble_eq_true rfl, Nat.le_of_ble_eq_true rfl⟩) ?_
      refine W.eq (g2 := F0 m 27 ls [.int (rdg (ma 0) (ma 1) j i)]) rfl ?_
      refine lv_goto (tgt := 35) hx hb dX4_reading_27 (by decide) ?_
      have hkk9 : k1 (vS hn (nI j) && vS n (nI i)) = 0 := by simp only [k1, k2, k3, Bool.and_true, Bool.true_and, Bool.and_false, Bool.false_and, Bool.not_true, Bool.not_false, c_1, c_3] <;> rfl
      exact x_iret hQ hx hb hr rfl hlk hS.2.2 dX4_reading_35 ⟨hS.fr, mQ_mk (k0 := 0) hkk9 hP rfl (hmn) (hmh) (rfl) (rfl) (fun _ => by rw [nI_clamp (show i < 2 ^ 31 by omega), nI_clamp (show j < 2 ^ 31 by omega)])⟩
