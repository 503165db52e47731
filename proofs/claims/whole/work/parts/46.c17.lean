theorem D_one {A : Nat → Prop} {a : Nat} {e : va_E} (h : A a) : va_D A [(a, e)] := ⟨fun i j p q hi hj _ => by have := (List.getElem?_eq_some_iff.mp hi).1; have := (List.getElem?_eq_some_iff.mp hj).1; simp only [List.length_cons, List.length_nil] at *; omega, fun k q hk => by match k, hk with
    | 0, hk => cases hk; exact h⟩
abbrev rmX3_clear : Room := { frames := 6, cells := 1, slots := 6, locals := 90 }
theorem qdX3_clear : yX3_clear.cls = RX3 ∧ yX3_clear.cls ≠ "java/lang/invoke/MethodHandle" ∧ yX3_clear.cls ≠ "java/lang/invoke/VarHandle" ∧ (parseMethodDescriptor yX3_clear.desc).map (fun d => d.parameters.length) = some 1 := by decide +kernel
set_option maxHeartbeats 4000000 in
set_option maxRecDepth 100000 in
theorem c_X3_clear {l : Launch} {G : gT} {A : Nat → Prop} {H0 : Heap} {zA : Nat × Nat} {ro : Nat → Prop} {n hn : Nat} {L T : Nat → Int32} {o : List Nat} {sa fa ta ha : Nat → Nat} {F U : Nat → Nat → Int32} {aS aB aH xa rb0 ms9 : Nat} {x1 : Int32} (hxo : pt G xa (.inr (3, [.ref aS, .ref aB, .ref aH, .ref rb0, .ref ms9])) H0) (hcr : crO G ro n hn L T o sa fa ta ha F U aS aB aH H0) (hg : OK n hn L T) (ho : IsOrd (fun s => gL L s 0) n o) (hAi : ∀ i, i < n → x1 = nI i → A (sa i)) (hst : l.stackTraces = false) : VzI G zA l yX3_clear wsX3_clear rmX3_clear [.ref xa, .int x1] H0 A 1 6 [eIX] (k1 (vS n x1)) (fun r H1 => r = gL L x1.toNatClampNeg 4 ∧ pt G (sa x1.toNatClampNeg) (.inr (2, [.int (nI x1.toNatClampNeg), .int (gL L x1.toNatClampNeg 0), .int (gL L x1.toNatClampNeg 1), .int (gL L x1.toNatClampNeg 2), .int (gL L x1.toNatClampNeg 3), .int (nI 0), .ref (fa x1.toNatClampNeg), .ref (ta x1.toNatClampNeg)])) H1) := by
  refine x_headx (bytes := cX3_clear) (maxL := 4) (ret := (some .int)) (by decide) rfl (Nat.le_of_ble_eq_true rfl) ?_
  intro p e s m below meth c ls hx hb hml hown hts hr hlk hnm hK hs0 hl Q hQ hZ hxt
  have hl : lv_has ls 4 [(0, .ref xa), (1, .int x1)] := hl
  have hC : CallFix p m c cX3_clear 4 s [.ref xa, .int x1].toArray wsX3_clear RX3 := ⟨hx, hb, hml, hown, hts⟩
  have k_f12 := hts (.fieldLink RX3 12 "SundogLine" "stations" "Ljava/util/ArrayList;") (by decide +kernel)
  have in_X3 : ∀ w ∈ u_ws RX3 TX3 5, w ∈ wsX3_clear := by decide +kernel
  have k_cl51 := hts (.classLink RX3 51 "SundogLine$Station") (by decide +kernel)
  have k_f85 := hts (.fieldLink RX3 85 "SundogLine$Station" "clouds" "I") (by decide +kernel)
  have in_X2 : ∀ w ∈ u_ws RX2 TX2 8, w ∈ wsX3_clear := by decide +kernel
  have k_cl70 := hts (.classLink RX3 70 eIX) (by decide +kernel)
  have k_inieIX := hts (.initialized eIX) (by decide +kernel)
  have at_eIX : ∀ w ∈ (vx_at0 RX3 72 eIX xN).filter goodWord, w ∈ wsX3_clear := by decide +kernel
  have hN := hZ.nn
  have hS : va_S A H0 H0 [] := va_S.rf
  have hn12 := hg.n
  have hh16 := hg.hn
  refine lv_aload_n hx hb dX3_clear_0 rfl (lv_at hl 0 rfl) ?_
  refine lv_iload_n hx hb dX3_clear_1 rfl (lv_at hl 1 rfl) ?_
  refine x_rd (va_runV (As := [.int x1]) (rest := []) hC (c_X3_noStation (hxo) (hcr) hg) (cwV 1 hts gX3_clear_X3_noStation rfl rfl rfl qdX3_noStation ⟨Nat.le_of_ble_eq_true rfl, Nat.le_of_ble_eq_true rfl⟩) (x_preV hK (x_recv hK (hxo) rfl)) rfl rfl hl.1 rfl (lv_room (Nat.le_of_ble_eq_true rfl)) dX3_clear_2 ⟨Nat.le_of_ble_eq_true rfl, Nat.le_of_ble_eq_true rfl⟩) ?_
  refine x_if_eqB (tgt := 16) hx hb dX3_clear_5 (by decide) (fun c_1 => ?_) (fun c_1 => ?_)
  · obtain ⟨i, hi, rfl⟩ := inR_nat (show n < 2 ^ 30 by omega) (bnf c_1)
    refine lv_aload_n hx hb dX3_clear_16 rfl (lv_at hl 0 rfl) ?_
    refine x_get (T := TX3) (N := 5) (v := .ref aS) hx hb hts in_X3 hown hK (hxo) rfl 0 (by decide) k_f12 (fun _ h9 => h9) (rfl) dX3_clear_17 ?_
    refine lv_iload_n hx hb dX3_clear_20 rfl (lv_at hl 1 rfl) ?_
    refine x_rd (va_runV (As := [.int (nI i)]) (rest := []) hC (c_get (hcr.lS) (by omega)) (cwV 1 hts gX3_clear_Jx4a65c_get_915e3 rfl rfl rfl qdJx4a65c_get_915e3 ⟨Nat.le_of_ble_eq_true rfl, Nat.le_of_ble_eq_true rfl⟩) (x_preV hK (alR_recv hK (hcr.lS))) rfl rfl hl.1 rfl (lv_room (Nat.le_of_ble_eq_true rfl)) dX3_clear_21 ⟨Nat.le_of_ble_eq_true rfl, Nat.le_of_ble_eq_true rfl⟩) ?_
    have hP := x_one (hcr.st (show i < n by omega)).1
    have hD := D_one (e := stO L i (fa i) (ta i)) (hAi i hi rfl)
    refine x_cast hx hb hown k_cl51 hK (hP 0 _ rfl) rfl dX3_clear_24 ?_
    refine lv_astore_n (lv' := [(2, .ref (sa i)), (0, .ref xa), (1, .int (nI i))]) hx hb dX3_clear_27 rfl hl (by decide) rfl (fun ls hl => ?_)
    refine lv_aload_n hx hb dX3_clear_28 rfl (lv_at hl 0 rfl) ?_
    refine x_get (T := TX2) (N := 8) (v := .int (gL L i 4)) hx hb hts in_X2 hown hK (hP 0 _ rfl) rfl 5 (by decide) k_f85 (fun _ h9 => h9) (rfl) dX3_clear_29 ?_
    refine lv_istore_n (lv' := [(3, .int (gL L i 4)), (2, .ref (sa i)), (0, .ref xa), (1, .int (nI i))]) hx hb dX3_clear_32 rfl hl (by decide) rfl (fun ls hl => ?_)
    refine lv_aload_n hx hb dX3_clear_33 rfl (lv_at hl 1 rfl) ?_
    refine lv_iconst (v := nI 0) hx hb dX3_clear_34 (by decide +kernel) ?_
    refine va_put (D := gD G) (ci := 2) (v := .int (nI 0)) (ty := .int) (C := RX2) (T := TX2) (N := 8) hx hb hts in_X2 tyX2 tyX2_ok nmX2 hown hK hP hD hS 0 rfl rfl 5 (by decide) k_f85 (fun _ h9 => h9) rfl (by decide +kernel) rfl rfl (Nat.le_of_ble_eq_true rfl) dX3_clear_35 (fun H locs hP hD hS => ?_)
    have hP : va_P (gD G) vC [((sa i), .inr (2, [.int (nI i), .int (gL L i 0), .int (gL L i 1), .int (gL L i 2), .int (gL L i 3), .int (nI 0), .ref (fa i), .ref (ta i)]))] H := hP
    have hD : va_D A [((sa i), .inr (2, [.int (nI i), .int (gL L i 0), .int (gL L i 1), .int (gL L i 2), .int (gL L i 3), .int (nI 0), .ref (fa i), .ref (ta i)]))] := hD
    refine lv_iload_n hx hb dX3_clear_38 rfl (lv_at hl 0 rfl) ?_
    have hkk9 : k1 (vS n (nI i)) = 0 := by simp only [k1, k2, k3, Bool.and_true, Bool.true_and, Bool.and_false, Bool.false_and, Bool.not_true, Bool.not_false, bnf c_1] <;> rfl
    refine W.widen (k := 1) (n := 6) (Nat.zero_le _) (Nat.zero_le _) ?_
    refine x_vxret hQ ?_
    exact x_iret rfl hx hb hr rfl hlk hS.2.2 dX3_clear_39 ⟨hS.fr, hkk9, by rw [nI_clamp (show i < 2 ^ 31 by omega)]; exact ⟨rfl, hP 0 _ rfl⟩⟩
  · have hkk9 : k1 (vS n x1) = 1 := by simp only [k1, k2, k3, Bool.and_true, Bool.true_and, Bool.and_false, Bool.false_and, Bool.not_true, Bool.not_false, bnt c_1] <;> rfl
    exact x_throw (cls := eIX) hQ hx hb hst hs0 hZ hS rfl hown (Or.inl rfl) (by decide) k_cl70 k_inieIX (fun w hw => hts w (at_eIX w hw)) xb_eIX xg_eIX (hl.1.trans hml.symm) dX3_clear_8 dX3_clear_11 dX3_clear_12 dX3_clear_15 hxt (Nat.le_of_ble_eq_true rfl) (Nat.le_of_ble_eq_true rfl) (Nat.le_of_ble_eq_true rfl) (Nat.le_of_ble_eq_true rfl) hlk hS.2.2 (by decide) (by decide) (by rw [hkk9]; exact ⟨by decide, rfl⟩)
abbrev rmX3_correct : Room := { frames := 6, cells := 1, slots := 6, locals := 90 }
theorem qdX3_correct : yX3_correct.cls = RX3 ∧ yX3_correct.cls ≠ "java/lang/invoke/MethodHandle" ∧ yX3_correct.cls ≠ "java/lang/invoke/VarHandle" ∧ (parseMethodDescriptor yX3_correct.desc).map (fun d => d.parameters.length) = some 2 := by decide +kernel
set_option maxHeartbeats 4000000 in
set_option maxRecDepth 100000 in
theorem c_X3_correct {l : Launch} {G : gT} {A : Nat → Prop} {H0 : Heap} {zA : Nat × Nat} {ro : Nat → Prop} {n hn : Nat} {L T : Nat → Int32} {o : List Nat} {sa fa ta ha : Nat → Nat} {F U : Nat → Nat → Int32} {aS aB aH xa rb0 ms9 : Nat} {x1 x2 : Int32} (hxo : pt G xa (.inr (3, [.ref aS, .ref aB, .ref aH, .ref rb0, .ref ms9])) H0) (hcr : crO G ro n hn L T o sa fa ta ha F U aS aB aH H0) (hg : OK n hn L T) (ho : IsOrd (fun s => gL L s 0) n o) (hAi : ∀ i, i < n → x1 = nI i → A (sa i)) (hst : l.stackTraces = false) : VzI G zA l yX3_correct wsX3_correct rmX3_correct [.ref xa, .int x1, .int x2] H0 A 1 6 [eIX, eIA] (k2 (vS n x1) (inR (-100000) (nI 100000) x2)) (fun r H1 => r = gL L x1.toNatClampNeg 3 ∧ pt G (sa x1.toNatClampNeg) (.inr (2, [.int (nI x1.toNatClampNeg), .int (gL L x1.toNatClampNeg 0), .int (gL L x1.toNatClampNeg 1), .int (gL L x1.toNatClampNeg 2), .int x2, .int (gL L x1.toNatClampNeg 4), .ref (fa x1.toNatClampNeg), .ref (ta x1.toNatClampNeg)])) H1) := by
  refine x_headx (bytes := cX3_correct) (maxL := 5) (ret := (some .int)) (by decide) rfl (Nat.le_of_ble_eq_true rfl) ?_
  intro p e s m below meth c ls hx hb hml hown hts hr hlk hnm hK hs0 hl Q hQ hZ hxt
  have hl : lv_has ls 5 [(0, .ref xa), (1, .int x1), (2, .int x2)] := hl
  have hC : CallFix p m c cX3_correct 5 s [.ref xa, .int x1, .int x2].toArray wsX3_correct RX3 := ⟨hx, hb, hml, hown, hts⟩
  have k_c89 := hts (.constant RX3 89 (-100000)) (by decide +kernel)
  have k_c90 := hts (.constant RX3 90 (100000)) (by decide +kernel)
  have k_f12 := hts (.fieldLink RX3 12 "SundogLine" "stations" "Ljava/util/ArrayList;") (by decide +kernel)
  have in_X3 : ∀ w ∈ u_ws RX3 TX3 5, w ∈ wsX3_correct := by decide +kernel
  have k_cl51 := hts (.classLink RX3 51 "SundogLine$Station") (by decide +kernel)
  have k_f91 := hts (.fieldLink RX3 91 "SundogLine$Station" "correction" "I") (by decide +kernel)
  have in_X2 : ∀ w ∈ u_ws RX2 TX2 8, w ∈ wsX3_correct := by decide +kernel
  have k_cl37 := hts (.classLink RX3 37 eIA) (by decide +kernel)
  have k_inieIA := hts (.initialized eIA) (by decide +kernel)
  have at_eIA : ∀ w ∈ (vx_at0 RX3 39 eIA xN).filter goodWord, w ∈ wsX3_correct := by decide +kernel
  have k_cl70 := hts (.classLink RX3 70 eIX) (by decide +kernel)
  have k_inieIX := hts (.initialized eIX) (by decide +kernel)
  have at_eIX : ∀ w ∈ (vx_at0 RX3 72 eIX xN).filter goodWord, w ∈ wsX3_correct := by decide +kernel
  have hN := hZ.nn
  have hS : va_S A H0 H0 [] := va_S.rf
  have hn12 := hg.n
  have hh16 := hg.hn
  refine lv_aload_n hx hb dX3_correct_0 rfl (lv_at hl 0 rfl) ?_
  refine lv_iload_n hx hb dX3_correct_1 rfl (lv_at hl 1 rfl) ?_
  refine x_rd (va_runV (As := [.int x1]) (rest := []) hC (c_X3_noStation (hxo) (hcr) hg) (cwV 1 hts gX3_correct_X3_noStation rfl rfl rfl qdX3_noStation ⟨Nat.le_of_ble_eq_true rfl, Nat.le_of_ble_eq_true rfl⟩) (x_preV hK (x_recv hK (hxo) rfl)) rfl rfl hl.1 rfl (lv_room (Nat.le_of_ble_eq_true rfl)) dX3_correct_2 ⟨Nat.le_of_ble_eq_true rfl, Nat.le_of_ble_eq_true rfl⟩) ?_
  refine x_if_eqB (tgt := 16) hx hb dX3_correct_5 (by decide) (fun c_1 => ?_) (fun c_1 => ?_)
  · refine lv_iload_n hx hb dX3_correct_16 rfl (lv_at hl 2 rfl) ?_
    refine lv_ldc (v := (-100000)) hx hb hown k_c89 dX3_correct_17 ?_
    refine lv_ldc (v := nI 100000) hx hb hown k_c90 dX3_correct_19 ?_
    refine x_rd (va_runS (As := [.int x2, .int ((-100000)), .int (nI 100000)]) (rest := []) hC (c_X3_outside) (cwS 3 hts gX3_correct_X3_outside rfl rfl rfl qdX3_outside ⟨Nat.le_of_ble_eq_true rfl, Nat.le_of_ble_eq_true rfl⟩) (x_preS hK) rfl rfl hl.1 rfl (lv_room (Nat.le_of_ble_eq_true rfl)) dX3_correct_21 ⟨Nat.le_of_ble_eq_true rfl, Nat.le_of_ble_eq_true rfl⟩) ?_
    refine x_if_eqB (tgt := 35) hx hb dX3_correct_24 (by decide) (fun c_2 => ?_) (fun c_2 => ?_)
    · obtain ⟨i, hi, rfl⟩ := inR_nat (show n < 2 ^ 30 by omega) (bnf c_1)
      refine lv_aload_n hx hb dX3_correct_35 rfl (lv_at hl 0 rfl) ?_
      refine x_get (T := TX3) (N := 5) (v := .ref aS) hx hb hts in_X3 hown hK (hxo) rfl 0 (by decide) k_f12 (fun _ h9 => h9) (rfl) dX3_correct_36 ?_
      refine lv_iload_n hx hb dX3_correct_39 rfl (lv_at hl 1 rfl) ?_
      refine x_rd (va_runV (As := [.int (nI i)]) (rest := []) hC (c_get (hcr.lS) (by omega)) (cwV 1 hts gX3_correct_Jx4a65c_get_915e3 rfl rfl rfl qdJx4a65c_get_915e3 ⟨Nat.le_of_ble_eq_true rfl, Nat.le_of_ble_eq_true rfl⟩) (x_preV hK (alR_recv hK (hcr.lS))) rfl rfl hl.1 rfl (lv_room (Nat.le_of_ble_eq_true rfl)) dX3_correct_40 ⟨Nat.le_of_ble_eq_true rfl, Nat.le_of_ble_eq_true rfl⟩) ?_
      have hP := x_one (hcr.st (show i < n by omega)).1
      have hD := D_one (e := stO L i (fa i) (ta i)) (hAi i hi rfl)
      refine x_cast hx hb hown k_cl51 hK (hP 0 _ rfl) rfl dX3_correct_43 ?_
      refine lv_astore_n (lv' := [(3, .ref (sa i)), (0, .ref xa), (1, .int (nI i)), (2, .int x2)]) hx hb dX3_correct_46 rfl hl (by decide) rfl (fun ls hl => ?_)
      refine lv_aload_n hx hb dX3_correct_47 rfl (lv_at hl 0 rfl) ?_
      refine x_get (T := TX2) (N := 8) (v := .int (gL L i 3)) hx hb hts in_X2 hown hK (hP 0 _ rfl) rfl 4 (by decide) k_f91 (fun _ h9 => h9) (rfl) dX3_correct_48 ?_
      refine lv_istore (lv' := [(4, .int (gL L i 3)), (3, .ref (sa i)), (0, .ref xa), (1, .int (nI i)), (2, .int x2)]) hx hb dX3_correct_51 hl (by decide) rfl (fun ls hl => ?_)
      refine lv_aload_n hx hb dX3_correct_53 rfl (lv_at hl 1 rfl) ?_
      refine lv_iload_n hx hb dX3_correct_54 rfl (lv_at hl 4 rfl) ?_
      refine va_put (D := gD G) (ci := 2) (v := .int x2) (ty := .int) (C := RX2) (T := TX2) (N := 8) hx hb hts in_X2 tyX2 tyX2_ok nmX2 hown hK hP hD hS 0 rfl rfl 4 (by decide) k_f91 (fun _ h9 => h9) rfl (by decide +kernel) rfl rfl (Nat.le_of_ble_eq_true rfl) dX3_correct_55 (fun H locs hP hD hS => ?_)
      have hP : va_P (gD G) vC [((sa i), .inr (2, [.int (nI i), .int (gL L i 0), .int (gL L i 1), .int (gL L i 2), .int x2, .int (gL L i 4), .ref (fa i), .ref (ta i)]))] H := hP
      have hD : va_D A [((sa i), .inr (2, [.int (nI i), .int (gL L i 0), .int (gL L i 1), .int (gL L i 2), .int x2, .int (gL L i 4), .ref (fa i), .ref (ta i)]))] := hD
      refine lv_iload hx hb dX3_correct_58 (lv_at hl 0 rfl) ?_
      have hkk9 : k2 (vS n (nI i)) (inR (-100000) (nI 100000) x2) = 0 := by simp only [k1, k2, k3, Bool.and_true, Bool.true_and, Bool.and_false, Bool.false_and, Bool.not_true, Bool.not_false, bnf c_1, bnf c_2] <;> rfl
      refine W.widen (k := 1) (n := 6) (Nat.zero_le _) (Nat.zero_le _) ?_
      refine x_vxret hQ ?_
      exact x_iret rfl hx hb hr rfl hlk hS.2.2 dX3_correct_60 ⟨hS.fr, hkk9, by rw [nI_clamp (show i < 2 ^ 31 by omega)]; exact ⟨rfl, hP 0 _ rfl⟩⟩
    · have hkk9 : k2 (vS n x1) (inR (-100000) (nI 100000) x2) = 2 := by simp only [k1, k2, k3, Bool.and_true, Bool.true_and, Bool.and_false, Bool.false_and, Bool.not_true, Bool.not_false, bnf c_1, bnt c_2] <;> rfl
      exact x_throw (cls := eIA) hQ hx hb hst hs0 hZ hS rfl hown (Or.inr (Or.inl rfl)) (by decide) k_cl37 k_inieIA (fun w hw => hts w (at_eIA w hw)) xb_eIA xg_eIA (hl.1.trans hml.symm) dX3_correct_27 dX3_correct_30 dX3_correct_31 dX3_correct_34 hxt (Nat.le_of_ble_eq_true rfl) (Nat.le_of_ble_eq_true rfl) (Nat.le_of_ble_eq_true rfl) (Nat.le_of_ble_eq_true rfl) hlk hS.2.2 (by decide) (by decide) (by rw [hkk9]; exact ⟨by decide, rfl⟩)
  · have hkk9 : k2 (vS n x1) (inR (-100000) (nI 100000) x2) = 1 := by simp only [k1, k2, k3, Bool.and_true, Bool.true_and, Bool.and_false, Bool.false_and, Bool.not_true, Bool.not_false, bnt c_1] <;> rfl
    exact x_throw (cls := eIX) hQ hx hb hst hs0 hZ hS rfl hown (Or.inl rfl) (by decide) k_cl70 k_inieIX (fun w hw => hts w (at_eIX w hw)) xb_eIX xg_eIX (hl.1.trans hml.symm) dX3_correct_8 dX3_correct_11 dX3_correct_12 dX3_correct_15 hxt (Nat.le_of_ble_eq_true rfl) (Nat.le_of_ble_eq_true rfl) (Nat.le_of_ble_eq_true rfl) (Nat.le_of_ble_eq_true rfl) hlk hS.2.2 (by decide) (by decide) (by rw [hkk9]; exact ⟨by decide, rfl⟩)
