theorem bnt {b : Bool} (h : (!b) = true) : b = false := by revert h; cases b <;> decide
theorem bnf {b : Bool} (h : (!b) = false) : b = true := by revert h; cases b <;> decide
theorem xg_eIX : ∀ w ∈ Cond.classLink RX3 70 eIX :: Cond.initialized eIX :: vx_at0 RX3 72 eIX xN, vx_ot w = true := by decide +kernel
theorem xb_eIX : ∀ w ∈ (vx_at0 RX3 72 eIX xN).filter (fun w => !goodWord w), w ∈ xB eIX := by decide +kernel
theorem xg_eIA : ∀ w ∈ Cond.classLink RX3 37 eIA :: Cond.initialized eIA :: vx_at0 RX3 39 eIA xN, vx_ot w = true := by decide +kernel
theorem xb_eIA : ∀ w ∈ (vx_at0 RX3 39 eIA xN).filter (fun w => !goodWord w), w ∈ xB eIA := by decide +kernel
theorem xg_eIS : ∀ w ∈ Cond.classLink RX3 48 eIS :: Cond.initialized eIS :: vx_at0 RX3 50 eIS xN, vx_ot w = true := by decide +kernel
theorem xb_eIS : ∀ w ∈ (vx_at0 RX3 50 eIS xN).filter (fun w => !goodWord w), w ∈ xB eIS := by decide +kernel
abbrev rmX3_clock : Room := { frames := 6, cells := 1, slots := 6, locals := 90 }
theorem qdX3_clock : yX3_clock.cls = RX3 ∧ yX3_clock.cls ≠ "java/lang/invoke/MethodHandle" ∧ yX3_clock.cls ≠ "java/lang/invoke/VarHandle" ∧ (parseMethodDescriptor yX3_clock.desc).map (fun d => d.parameters.length) = some 2 := by decide +kernel
set_option maxHeartbeats 4000000 in
set_option maxRecDepth 100000 in
theorem c_X3_clock {l : Launch} {G : gT} {A : Nat → Prop} {H0 : Heap} {zA : Nat × Nat} {ro : Nat → Prop} {n hn : Nat} {L T : Nat → Int32} {o : List Nat} {sa fa ta ha : Nat → Nat} {F U : Nat → Nat → Int32} {aS aB aH xa rb0 ms9 : Nat} {x1 x2 : Int32} (hxo : pt G xa (.inr (3, [.ref aS, .ref aB, .ref aH, .ref rb0, .ref ms9])) H0) (hcr : crO G ro n hn L T o sa fa ta ha F U aS aB aH H0) (hg : OK n hn L T) (ho : IsOrd (fun s => gL L s 0) n o) (hst : l.stackTraces = false) : VzI G zA l yX3_clock wsX3_clock rmX3_clock [.ref xa, .int x1, .int x2] H0 A 1 6 [eIX, eIA] (k2 (vS n x1) (inR (nI 0) (nI 1000000) x2)) (fun r H1 => r = clk L x1.toNatClampNeg x2) := by
  refine x_headx (bytes := cX3_clock) (maxL := 3) (ret := (some .int)) (by decide) rfl (Nat.le_of_ble_eq_true rfl) ?_
  intro p e s m below meth c ls hx hb hml hown hts hr hlk hnm hK hs0 hl Q hQ hZ hxt
  have hl : lv_has ls 3 [(0, .ref xa), (1, .int x1), (2, .int x2)] := hl
  have hC : CallFix p m c cX3_clock 3 s [.ref xa, .int x1, .int x2].toArray wsX3_clock RX3 := ⟨hx, hb, hml, hown, hts⟩
  have k_c98 := hts (.constant RX3 98 (1000000)) (by decide +kernel)
  have k_f12 := hts (.fieldLink RX3 12 "SundogLine" "stations" "Ljava/util/ArrayList;") (by decide +kernel)
  have in_X3 : ∀ w ∈ u_ws RX3 TX3 5, w ∈ wsX3_clock := by decide +kernel
  have k_cl51 := hts (.classLink RX3 51 "SundogLine$Station") (by decide +kernel)
  have k_cl37 := hts (.classLink RX3 37 eIA) (by decide +kernel)
  have k_inieIA := hts (.initialized eIA) (by decide +kernel)
  have at_eIA : ∀ w ∈ (vx_at0 RX3 39 eIA xN).filter goodWord, w ∈ wsX3_clock := by decide +kernel
  have k_cl70 := hts (.classLink RX3 70 eIX) (by decide +kernel)
  have k_inieIX := hts (.initialized eIX) (by decide +kernel)
  have at_eIX : ∀ w ∈ (vx_at0 RX3 72 eIX xN).filter goodWord, w ∈ wsX3_clock := by decide +kernel
  have hN := hZ.nn
  have hS : va_S A H0 H0 [] := va_S.rf
  have hn12 := hg.n
  have hh16 := hg.hn
  refine lv_aload_n hx hb dX3_clock_0 rfl (lv_at hl 0 rfl) ?_
  refine lv_iload_n hx hb dX3_clock_1 rfl (lv_at hl 1 rfl) ?_
  refine x_rd (va_runV (As := [.int x1]) (rest := []) hC (c_X3_noStation (hxo) (hcr) hg) (cwV 1 hts gX3_clock_X3_noStation rfl rfl rfl qdX3_noStation ⟨Nat.le_of_ble_eq_true rfl, Nat.le_of_ble_eq_true rfl⟩) (x_preV hK (x_recv hK (hxo) rfl)) rfl rfl hl.1 rfl (lv_room (Nat.le_of_ble_eq_true rfl)) dX3_clock_2 ⟨Nat.le_of_ble_eq_true rfl, Nat.le_of_ble_eq_true rfl⟩) ?_
  refine x_if_eqB (tgt := 16) hx hb dX3_clock_5 (by decide) (fun c_1 => ?_) (fun c_1 => ?_)
  · obtain ⟨i, hi, rfl⟩ := inR_nat (show n < 2 ^ 30 by omega) (bnf c_1)
    refine lv_iload_n hx hb dX3_clock_16 rfl (lv_at hl 2 rfl) ?_
    refine lv_iconst (v := nI 0) hx hb dX3_clock_17 (by decide +kernel) ?_
    refine lv_ldc (v := nI 1000000) hx hb hown k_c98 dX3_clock_18 ?_
    refine x_rd (va_runS (As := [.int x2, .int (nI 0), .int (nI 1000000)]) (rest := []) hC (c_X3_outside) (cwS 3 hts gX3_clock_X3_outside rfl rfl rfl qdX3_outside ⟨Nat.le_of_ble_eq_true rfl, Nat.le_of_ble_eq_true rfl⟩) (x_preS hK) rfl rfl hl.1 rfl (lv_room (Nat.le_of_ble_eq_true rfl)) dX3_clock_20 ⟨Nat.le_of_ble_eq_true rfl, Nat.le_of_ble_eq_true rfl⟩) ?_
    refine x_if_eqB (tgt := 34) hx hb dX3_clock_23 (by decide) (fun c_2 => ?_) (fun c_2 => ?_)
    · refine lv_aload_n hx hb dX3_clock_34 rfl (lv_at hl 0 rfl) ?_
      refine x_get (T := TX3) (N := 5) (v := .ref aS) hx hb hts in_X3 hown hK (hxo) rfl 0 (by decide) k_f12 (fun _ h9 => h9) (rfl) dX3_clock_35 ?_
      refine lv_iload_n hx hb dX3_clock_38 rfl (lv_at hl 1 rfl) ?_
      refine x_rd (va_runV (As := [.int (nI i)]) (rest := []) hC (c_get (hcr.lS) (by omega)) (cwV 1 hts gX3_clock_Jx4a65c_get_915e3 rfl rfl rfl qdJx4a65c_get_915e3 ⟨Nat.le_of_ble_eq_true rfl, Nat.le_of_ble_eq_true rfl⟩) (x_preV hK (alR_recv hK (hcr.lS))) rfl rfl hl.1 rfl (lv_room (Nat.le_of_ble_eq_true rfl)) dX3_clock_39 ⟨Nat.le_of_ble_eq_true rfl, Nat.le_of_ble_eq_true rfl⟩) ?_
      refine x_cast hx hb hown k_cl51 hK ((hcr.st (show i < n by omega)).1) rfl dX3_clock_42 ?_
      refine lv_iload_n hx hb dX3_clock_45 rfl (lv_at hl 2 rfl) ?_
      refine x_rd (va_runV (As := [.int x2]) (rest := []) hC (c_X2_readsAt (hcr.st (show i < n by omega))) (cwV 1 hts gX3_clock_X2_readsAt rfl rfl rfl qdX2_readsAt ⟨Nat.le_of_ble_eq_true rfl, Nat.le_of_ble_eq_true rfl⟩) (x_preV hK (x_recv hK ((hcr.st (show i < n by omega)).1) rfl)) rfl rfl hl.1 rfl (lv_room (Nat.le_of_ble_eq_true rfl)) dX3_clock_46 ⟨Nat.le_of_ble_eq_true rfl, Nat.le_of_ble_eq_true rfl⟩) ?_
      have hkk9 : k2 (vS n (nI i)) (inR (nI 0) (nI 1000000) x2) = 0 := by simp only [k1, k2, k3, Bool.and_true, Bool.true_and, Bool.and_false, Bool.false_and, Bool.not_true, Bool.not_false, bnf c_1, bnf c_2] <;> rfl
      refine W.widen (k := 1) (n := 6) (Nat.zero_le _) (Nat.zero_le _) ?_
      refine x_vxret hQ ?_
      exact x_iret rfl hx hb hr rfl hlk hS.2.2 dX3_clock_49 ⟨hS.fr, hkk9, by rw [nI_clamp (show i < 2 ^ 31 by omega)]⟩
    · have hkk9 : k2 (vS n (nI i)) (inR (nI 0) (nI 1000000) x2) = 2 := by simp only [k1, k2, k3, Bool.and_true, Bool.true_and, Bool.and_false, Bool.false_and, Bool.not_true, Bool.not_false, bnf c_1, bnt c_2] <;> rfl
      exact x_throw (cls := eIA) hQ hx hb hst hs0 hZ hS rfl hown (Or.inr (Or.inl rfl)) (by decide) k_cl37 k_inieIA (fun w hw => hts w (at_eIA w hw)) xb_eIA xg_eIA (hl.1.trans hml.symm) dX3_clock_26 dX3_clock_29 dX3_clock_30 dX3_clock_33 hxt (Nat.le_of_ble_eq_true rfl) (Nat.le_of_ble_eq_true rfl) (Nat.le_of_ble_eq_true rfl) (Nat.le_of_ble_eq_true rfl) hlk hS.2.2 (by decide) (by decide) (by rw [hkk9]; exact ⟨by decide, rfl⟩)
  · have hkk9 : k2 (vS n x1) (inR (nI 0) (nI 1000000) x2) = 1 := by simp only [k1, k2, k3, Bool.and_true, Bool.true_and, Bool.and_false, Bool.false_and, Bool.not_true, Bool.not_false, bnt c_1] <;> rfl
    exact x_throw (cls := eIX) hQ hx hb hst hs0 hZ hS rfl hown (Or.inl rfl) (by decide) k_cl70 k_inieIX (fun w hw => hts w (at_eIX w hw)) xb_eIX xg_eIX (hl.1.trans hml.symm) dX3_clock_8 dX3_clock_11 dX3_clock_12 dX3_clock_15 hxt (Nat.le_of_ble_eq_true rfl) (Nat.le_of_ble_eq_true rfl) (Nat.le_of_ble_eq_true rfl) (Nat.le_of_ble_eq_true rfl) hlk hS.2.2 (by decide) (by decide) (by rw [hkk9]; exact ⟨by decide, rfl⟩)
abbrev rmX3_comes : Room := { frames := 6, cells := 1, slots := 6, locals := 90 }
theorem qdX3_comes : yX3_comes.cls = RX3 ∧ yX3_comes.cls ≠ "java/lang/invoke/MethodHandle" ∧ yX3_comes.cls ≠ "java/lang/invoke/VarHandle" ∧ (parseMethodDescriptor yX3_comes.desc).map (fun d => d.parameters.length) = some 2 := by decide +kernel
set_option maxHeartbeats 4000000 in
set_option maxRecDepth 100000 in
theorem c_X3_comes {l : Launch} {G : gT} {A : Nat → Prop} {H0 : Heap} {zA : Nat × Nat} {ro : Nat → Prop} {n hn : Nat} {L T : Nat → Int32} {o : List Nat} {sa fa ta ha : Nat → Nat} {F U : Nat → Nat → Int32} {aS aB aH xa rb0 ms9 : Nat} {x1 x2 : Int32} (hxo : pt G xa (.inr (3, [.ref aS, .ref aB, .ref aH, .ref rb0, .ref ms9])) H0) (hcr : crO G ro n hn L T o sa fa ta ha F U aS aB aH H0) (hg : OK n hn L T) (ho : IsOrd (fun s => gL L s 0) n o) (hst : l.stackTraces = false) : VzI G zA l yX3_comes wsX3_comes rmX3_comes [.ref xa, .int x1, .int x2] H0 A 1 6 [eIX] (k1 (vS hn x1 && vS n x2)) (fun r H1 => r = cto L T x1.toNatClampNeg x2.toNatClampNeg) := by
  refine x_headx (bytes := cX3_comes) (maxL := 3) (ret := (some .int)) (by decide) rfl (Nat.le_of_ble_eq_true rfl) ?_
  intro p e s m below meth c ls hx hb hml hown hts hr hlk hnm hK hs0 hl Q hQ hZ hxt
  have hl : lv_has ls 3 [(0, .ref xa), (1, .int x1), (2, .int x2)] := hl
  have hC : CallFix p m c cX3_comes 3 s [.ref xa, .int x1, .int x2].toArray wsX3_comes RX3 := ⟨hx, hb, hml, hown, hts⟩
  have k_cl70 := hts (.classLink RX3 70 eIX) (by decide +kernel)
  have k_inieIX := hts (.initialized eIX) (by decide +kernel)
  have at_eIX : ∀ w ∈ (vx_at0 RX3 72 eIX xN).filter goodWord, w ∈ wsX3_comes := by decide +kernel
  have k_f19 := hts (.fieldLink RX3 19 "SundogLine" "halos" "Ljava/util/ArrayList;") (by decide +kernel)
  have in_X3 : ∀ w ∈ u_ws RX3 TX3 5, w ∈ wsX3_comes := by decide +kernel
  have k_cl102 := hts (.classLink RX3 102 RX0) (by decide +kernel)
  have k_f12 := hts (.fieldLink RX3 12 "SundogLine" "stations" "Ljava/util/ArrayList;") (by decide +kernel)
  have k_cl51 := hts (.classLink RX3 51 "SundogLine$Station") (by decide +kernel)
  have k_f108 := hts (.fieldLink RX3 108 "SundogLine$Station" "place" "I") (by decide +kernel)
  have in_X2 : ∀ w ∈ u_ws RX2 TX2 8, w ∈ wsX3_comes := by decide +kernel
  have hN := hZ.nn
  have hS : va_S A H0 H0 [] := va_S.rf
  have hn12 := hg.n
  have hh16 := hg.hn
  refine lv_aload_n hx hb dX3_comes_0 rfl (lv_at hl 0 rfl) ?_
  refine lv_iload_n hx hb dX3_comes_1 rfl (lv_at hl 1 rfl) ?_
  refine x_rd (va_runV (As := [.int x1]) (rest := []) hC (c_X3_noHalo (hxo) (hcr) hg) (cwV 1 hts gX3_comes_X3_noHalo rfl rfl rfl qdX3_noHalo ⟨Nat.le_of_ble_eq_true rfl, Nat.le_of_ble_eq_true rfl⟩) (x_preV hK (x_recv hK (hxo) rfl)) rfl rfl hl.1 rfl (lv_room (Nat.le_of_ble_eq_true rfl)) dX3_comes_2 ⟨Nat.le_of_ble_eq_true rfl, Nat.le_of_ble_eq_true rfl⟩) ?_
  refine x_if_neB (tgt := 16) hx hb dX3_comes_5 (by decide) (fun c_1 => ?_) (fun c_1 => ?_)
  · have hkk9 : k1 (vS hn x1 && vS n x2) = 1 := by simp only [k1, k2, k3, Bool.and_true, Bool.true_and, Bool.and_false, Bool.false_and, Bool.not_true, Bool.not_false, bnt c_1] <;> rfl
    exact x_throw (cls := eIX) hQ hx hb hst hs0 hZ hS rfl hown (Or.inl rfl) (by decide) k_cl70 k_inieIX (fun w hw => hts w (at_eIX w hw)) xb_eIX xg_eIX (hl.1.trans hml.symm) dX3_comes_16 dX3_comes_19 dX3_comes_20 dX3_comes_23 hxt (Nat.le_of_ble_eq_true rfl) (Nat.le_of_ble_eq_true rfl) (Nat.le_of_ble_eq_true rfl) (Nat.le_of_ble_eq_true rfl) hlk hS.2.2 (by decide) (by decide) (by rw [hkk9]; exact ⟨by decide, rfl⟩)
  · refine lv_aload_n hx hb dX3_comes_8 rfl (lv_at hl 0 rfl) ?_
    refine lv_iload_n hx hb dX3_comes_9 rfl (lv_at hl 2 rfl) ?_
    refine x_rd (va_runV (As := [.int x2]) (rest := []) hC (c_X3_noStation (hxo) (hcr) hg) (cwV 1 hts gX3_comes_X3_noStation rfl rfl rfl qdX3_noStation ⟨Nat.le_of_ble_eq_true rfl, Nat.le_of_ble_eq_true rfl⟩) (x_preV hK (x_recv hK (hxo) rfl)) rfl rfl hl.1 rfl (lv_room (Nat.le_of_ble_eq_true rfl)) dX3_comes_10 ⟨Nat.le_of_ble_eq_true rfl, Nat.le_of_ble_eq_true rfl⟩) ?_
    refine x_if_eqB (tgt := 24) hx hb dX3_comes_13 (by decide) (fun c_2 => ?_) (fun c_2 => ?_)
    · obtain ⟨j, hj, rfl⟩ := inR_nat (show hn < 2 ^ 30 by omega) (bnf c_1)
      obtain ⟨i, hi, rfl⟩ := inR_nat (show n < 2 ^ 30 by omega) (bnf c_2)
      refine lv_aload_n hx hb dX3_comes_24 rfl (lv_at hl 0 rfl) ?_
      refine x_get (T := TX3) (N := 5) (v := .ref aH) hx hb hts in_X3 hown hK (hxo) rfl 2 (by decide) k_f19 (fun _ h9 => h9) (rfl) dX3_comes_25 ?_
      refine lv_iload_n hx hb dX3_comes_28 rfl (lv_at hl 1 rfl) ?_
      refine x_rd (va_runV (As := [.int (nI j)]) (rest := []) hC (c_get (hcr.lH) (by omega)) (cwV 1 hts gX3_comes_Jx4a65c_get_915e3 rfl rfl rfl qdJx4a65c_get_915e3 ⟨Nat.le_of_ble_eq_true rfl, Nat.le_of_ble_eq_true rfl⟩) (x_preV hK (alR_recv hK (hcr.lH))) rfl rfl hl.1 rfl (lv_room (Nat.le_of_ble_eq_true rfl)) dX3_comes_29 ⟨Nat.le_of_ble_eq_true rfl, Nat.le_of_ble_eq_true rfl⟩) ?_
      refine x_cast hx hb hown k_cl102 hK (hcr.hal (show j < hn by omega)) rfl dX3_comes_32 ?_
      refine lv_aload_n hx hb dX3_comes_35 rfl (lv_at hl 0 rfl) ?_
      refine x_get (T := TX3) (N := 5) (v := .ref aS) hx hb hts in_X3 hown hK (hxo) rfl 0 (by decide) k_f12 (fun _ h9 => h9) (rfl) dX3_comes_36 ?_
      refine lv_iload_n hx hb dX3_comes_39 rfl (lv_at hl 2 rfl) ?_
      refine x_rd (va_runV (As := [.int (nI i)]) (rest := [.ref (ha j)]) hC (c_get (hcr.lS) (by omega)) (cwV 1 hts gX3_comes_Jx4a65c_get_915e3 rfl rfl rfl qdJx4a65c_get_915e3 ⟨Nat.le_of_ble_eq_true rfl, Nat.le_of_ble_eq_true rfl⟩) (x_preV hK (alR_recv hK (hcr.lS))) rfl rfl hl.1 rfl (lv_room (Nat.le_of_ble_eq_true rfl)) dX3_comes_40 ⟨Nat.le_of_ble_eq_true rfl, Nat.le_of_ble_eq_true rfl⟩) ?_
      refine x_cast hx hb hown k_cl51 hK ((hcr.st (show i < n by omega)).1) rfl dX3_comes_43 ?_
      refine x_get (T := TX2) (N := 8) (v := .int (gL L i 0)) hx hb hts in_X2 hown hK ((hcr.st (show i < n by omega)).1) rfl 1 (by decide) k_f108 (fun _ h9 => h9) (rfl) dX3_comes_46 ?_
      refine x_rd (va_runV (As := [.int (gL L i 0)]) (rest := []) hC (c_X0_timeAt (hcr.hal (show j < hn by omega)) (hg.2.1 _ (show i < n by omega)) (hg.2.2.1 _ (show j < hn by omega))) (cwV 1 hts gX3_comes_X0_timeAt rfl rfl rfl qdX0_timeAt ⟨Nat.le_of_ble_eq_true rfl, Nat.le_of_ble_eq_true rfl⟩) (x_preV hK (x_recv hK (hcr.hal (show j < hn by omega)) rfl)) rfl rfl hl.1 rfl (lv_room (Nat.le_of_ble_eq_true rfl)) dX3_comes_49 ⟨Nat.le_of_ble_eq_true rfl, Nat.le_of_ble_eq_true rfl⟩) ?_
      have hkk9 : k1 (vS hn (nI j) && vS n (nI i)) = 0 := by simp only [k1, k2, k3, Bool.and_true, Bool.true_and, Bool.and_false, Bool.false_and, Bool.not_true, Bool.not_false, bnf c_1, bnf c_2] <;> rfl
      refine W.widen (k := 1) (n := 6) (Nat.zero_le _) (Nat.zero_le _) ?_
      refine x_vxret hQ ?_
      exact x_iret rfl hx hb hr rfl hlk hS.2.2 dX3_comes_52 ⟨hS.fr, hkk9, by rw [nI_clamp (show i < 2 ^ 31 by omega), nI_clamp (show j < 2 ^ 31 by omega)]⟩
    · have hkk9 : k1 (vS hn x1 && vS n x2) = 1 := by simp only [k1, k2, k3, Bool.and_true, Bool.true_and, Bool.and_false, Bool.false_and, Bool.not_true, Bool.not_false, bnf c_1, bnt c_2] <;> rfl
      exact x_throw (cls := eIX) hQ hx hb hst hs0 hZ hS rfl hown (Or.inl rfl) (by decide) k_cl70 k_inieIX (fun w hw => hts w (at_eIX w hw)) xb_eIX xg_eIX (hl.1.trans hml.symm) dX3_comes_16 dX3_comes_19 dX3_comes_20 dX3_comes_23 hxt (Nat.le_of_ble_eq_true rfl) (Nat.le_of_ble_eq_true rfl) (Nat.le_of_ble_eq_true rfl) (Nat.le_of_ble_eq_true rfl) hlk hS.2.2 (by decide) (by decide) (by rw [hkk9]; exact ⟨by decide, rfl⟩)
abbrev rmX3_reading : Room := { frames := 6, cells := 1, slots := 6, locals := 90 }
theorem qdX3_reading : yX3_reading.cls = RX3 ∧ yX3_reading.cls ≠ "java/lang/invoke/MethodHandle" ∧ yX3_reading.cls ≠ "java/lang/invoke/VarHandle" ∧ (parseMethodDescriptor yX3_reading.desc).map (fun d => d.parameters.length) = some 2 := by decide +kernel
set_option maxHeartbeats 4000000 in
set_option maxRecDepth 100000 in
theorem c_X3_reading {l : Launch} {G : gT} {A : Nat → Prop} {H0 : Heap} {zA : Nat × Nat} {ro : Nat → Prop} {n hn : Nat} {L T : Nat → Int32} {o : List Nat} {sa fa ta ha : Nat → Nat} {F U : Nat → Nat → Int32} {aS aB aH xa rb0 ms9 : Nat} {x1 x2 : Int32} (hxo : pt G xa (.inr (3, [.ref aS, .ref aB, .ref aH, .ref rb0, .ref ms9])) H0) (hcr : crO G ro n hn L T o sa fa ta ha F U aS aB aH H0) (hg : OK n hn L T) (ho : IsOrd (fun s => gL L s 0) n o) (hst : l.stackTraces = false) : VzI G zA l yX3_reading wsX3_reading rmX3_reading [.ref xa, .int x1, .int x2] H0 A 1 6 [eIX] (k1 (vS hn x1 && vS n x2)) (fun r H1 => r = rdg L T x1.toNatClampNeg x2.toNatClampNeg) := by
  refine x_headx (bytes := cX3_reading) (maxL := 3) (ret := (some .int)) (by decide) rfl (Nat.le_of_ble_eq_true rfl) ?_
  intro p e s m below meth c ls hx hb hml hown hts hr hlk hnm hK hs0 hl Q hQ hZ hxt
  have hl : lv_has ls 3 [(0, .ref xa), (1, .int x1), (2, .int x2)] := hl
  have hC : CallFix p m c cX3_reading 3 s [.ref xa, .int x1, .int x2].toArray wsX3_reading RX3 := ⟨hx, hb, hml, hown, hts⟩
  have k_cl70 := hts (.classLink RX3 70 eIX) (by decide +kernel)
  have k_inieIX := hts (.initialized eIX) (by decide +kernel)
  have at_eIX : ∀ w ∈ (vx_at0 RX3 72 eIX xN).filter goodWord, w ∈ wsX3_reading := by decide +kernel
  have k_f12 := hts (.fieldLink RX3 12 "SundogLine" "stations" "Ljava/util/ArrayList;") (by decide +kernel)
  have in_X3 : ∀ w ∈ u_ws RX3 TX3 5, w ∈ wsX3_reading := by decide +kernel
  have k_cl51 := hts (.classLink RX3 51 "SundogLine$Station") (by decide +kernel)
  have k_f19 := hts (.fieldLink RX3 19 "SundogLine" "halos" "Ljava/util/ArrayList;") (by decide +kernel)
  have k_cl102 := hts (.classLink RX3 102 RX0) (by decide +kernel)
  have hN := hZ.nn
  have hS : va_S A H0 H0 [] := va_S.rf
  have hn12 := hg.n
  have hh16 := hg.hn
  refine lv_aload_n hx hb dX3_reading_0 rfl (lv_at hl 0 rfl) ?_
  refine lv_iload_n hx hb dX3_reading_1 rfl (lv_at hl 1 rfl) ?_
  refine x_rd (va_runV (As := [.int x1]) (rest := []) hC (c_X3_noHalo (hxo) (hcr) hg) (cwV 1 hts gX3_reading_X3_noHalo rfl rfl rfl qdX3_noHalo ⟨Nat.le_of_ble_eq_true rfl, Nat.le_of_ble_eq_true rfl⟩) (x_preV hK (x_recv hK (hxo) rfl)) rfl rfl hl.1 rfl (lv_room (Nat.le_of_ble_eq_true rfl)) dX3_reading_2 ⟨Nat.le_of_ble_eq_true rfl, Nat.le_of_ble_eq_true rfl⟩) ?_
  refine x_if_neB (tgt := 16) hx hb dX3_reading_5 (by decide) (fun c_1 => ?_) (fun c_1 => ?_)
  · have hkk9 : k1 (vS hn x1 && vS n x2) = 1 := by simp only [k1, k2, k3, Bool.and_true, Bool.true_and, Bool.and_false, Bool.false_and, Bool.not_true, Bool.not_false, bnt c_1] <;> rfl
    exact x_throw (cls := eIX) hQ hx hb hst hs0 hZ hS rfl hown (Or.inl rfl) (by decide) k_cl70 k_inieIX (fun w hw => hts w (at_eIX w hw)) xb_eIX xg_eIX (hl.1.trans hml.symm) dX3_reading_16 dX3_reading_19 dX3_reading_20 dX3_reading_23 hxt (Nat.le_of_ble_eq_true rfl) (Nat.le_of_ble_eq_true rfl) (Nat.le_of_ble_eq_true rfl) (Nat.le_of_ble_eq_true rfl) hlk hS.2.2 (by decide) (by decide) (by rw [hkk9]; exact ⟨by decide, rfl⟩)
  · refine lv_aload_n hx hb dX3_reading_8 rfl (lv_at hl 0 rfl) ?_
    refine lv_iload_n hx hb dX3_reading_9 rfl (lv_at hl 2 rfl) ?_
    refine x_rd (va_runV (As := [.int x2]) (rest := []) hC (c_X3_noStation (hxo) (hcr) hg) (cwV 1 hts gX3_reading_X3_noStation rfl rfl rfl qdX3_noStation ⟨Nat.le_of_ble_eq_true rfl, Nat.le_of_ble_eq_true rfl⟩) (x_preV hK (x_recv hK (hxo) rfl)) rfl rfl hl.1 rfl (lv_room (Nat.le_of_ble_eq_true rfl)) dX3_reading_10 ⟨Nat.le_of_ble_eq_true rfl, Nat.le_of_ble_eq_true rfl⟩) ?_
    refine x_if_eqB (tgt := 24) hx hb dX3_reading_13 (by decide) (fun c_2 => ?_) (fun c_2 => ?_)
    · obtain ⟨j, hj, rfl⟩ := inR_nat (show hn < 2 ^ 30 by omega) (bnf c_1)
      obtain ⟨i, hi, rfl⟩ := inR_nat (show n < 2 ^ 30 by omega) (bnf c_2)
      refine lv_aload_n hx hb dX3_reading_24 rfl (lv_at hl 0 rfl) ?_
      refine x_get (T := TX3) (N := 5) (v := .ref aS) hx hb hts in_X3 hown hK (hxo) rfl 0 (by decide) k_f12 (fun _ h9 => h9) (rfl) dX3_reading_25 ?_
      refine lv_iload_n hx hb dX3_reading_28 rfl (lv_at hl 2 rfl) ?_
      refine x_rd (va_runV (As := [.int (nI i)]) (rest := []) hC (c_get (hcr.lS) (by omega)) (cwV 1 hts gX3_reading_Jx4a65c_get_915e3 rfl rfl rfl qdJx4a65c_get_915e3 ⟨Nat.le_of_ble_eq_true rfl, Nat.le_of_ble_eq_true rfl⟩) (x_preV hK (alR_recv hK (hcr.lS))) rfl rfl hl.1 rfl (lv_room (Nat.le_of_ble_eq_true rfl)) dX3_reading_29 ⟨Nat.le_of_ble_eq_true rfl, Nat.le_of_ble_eq_true rfl⟩) ?_
      refine x_cast hx hb hown k_cl51 hK ((hcr.st (show i < n by omega)).1) rfl dX3_reading_32 ?_
      refine lv_aload_n hx hb dX3_reading_35 rfl (lv_at hl 0 rfl) ?_
      refine x_get (T := TX3) (N := 5) (v := .ref aH) hx hb hts in_X3 hown hK (hxo) rfl 2 (by decide) k_f19 (fun _ h9 => h9) (rfl) dX3_reading_36 ?_
      refine lv_iload_n hx hb dX3_reading_39 rfl (lv_at hl 1 rfl) ?_
      refine x_rd (va_runV (As := [.int (nI j)]) (rest := [.ref (sa i)]) hC (c_get (hcr.lH) (by omega)) (cwV 1 hts gX3_reading_Jx4a65c_get_915e3 rfl rfl rfl qdJx4a65c_get_915e3 ⟨Nat.le_of_ble_eq_true rfl, Nat.le_of_ble_eq_true rfl⟩) (x_preV hK (alR_recv hK (hcr.lH))) rfl rfl hl.1 rfl (lv_room (Nat.le_of_ble_eq_true rfl)) dX3_reading_40 ⟨Nat.le_of_ble_eq_true rfl, Nat.le_of_ble_eq_true rfl⟩) ?_
      refine x_cast hx hb hown k_cl102 hK (hcr.hal (show j < hn by omega)) rfl dX3_reading_43 ?_
      refine x_rd (va_runV (As := [.ref (ha j)]) (rest := []) hC (c_X2_readingOf (hcr.st (show i < n by omega)) (hcr.hal (show j < hn by omega)) (hg.2.1 _ (show i < n by omega)) (hg.2.2.1 _ (show j < hn by omega))) (cwV 1 hts gX3_reading_X2_readingOf rfl rfl rfl qdX2_readingOf ⟨Nat.le_of_ble_eq_true rfl, Nat.le_of_ble_eq_true rfl⟩) (x_preV hK (x_recv hK ((hcr.st (show i < n by omega)).1) rfl)) rfl rfl hl.1 rfl (lv_room (Nat.le_of_ble_eq_true rfl)) dX3_reading_46 ⟨Nat.le_of_ble_eq_true rfl, Nat.le_of_ble_eq_true rfl⟩) ?_
      have hkk9 : k1 (vS hn (nI j) && vS n (nI i)) = 0 := by simp only [k1, k2, k3, Bool.and_true, Bool.true_and, Bool.and_false, Bool.false_and, Bool.not_true, Bool.not_false, bnf c_1, bnf c_2] <;> rfl
      refine W.widen (k := 1) (n := 6) (Nat.zero_le _) (Nat.zero_le _) ?_
      refine x_vxret hQ ?_
      exact x_iret rfl hx hb hr rfl hlk hS.2.2 dX3_reading_49 ⟨hS.fr, hkk9, by rw [nI_clamp (show i < 2 ^ 31 by omega), nI_clamp (show j < 2 ^ 31 by omega)]⟩
    · have hkk9 : k1 (vS hn x1 && vS n x2) = 1 := by simp only [k1, k2, k3, Bool.and_true, Bool.true_and, Bool.and_false, Bool.false_and, Bool.not_true, Bool.not_false, bnf c_1, bnt c_2] <;> rfl
      exact x_throw (cls := eIX) hQ hx hb hst hs0 hZ hS rfl hown (Or.inl rfl) (by decide) k_cl70 k_inieIX (fun w hw => hts w (at_eIX w hw)) xb_eIX xg_eIX (hl.1.trans hml.symm) dX3_reading_16 dX3_reading_19 dX3_reading_20 dX3_reading_23 hxt (Nat.le_of_ble_eq_true rfl) (Nat.le_of_ble_eq_true rfl) (Nat.le_of_ble_eq_true rfl) (Nat.le_of_ble_eq_true rfl) hlk hS.2.2 (by decide) (by decide) (by rw [hkk9]; exact ⟨by decide, rfl⟩)
abbrev rmX3_station : Room := { frames := 6, cells := 1, slots := 6, locals := 109 }
theorem qdX3_station : yX3_station.cls = RX3 ∧ yX3_station.cls ≠ "java/lang/invoke/MethodHandle" ∧ yX3_station.cls ≠ "java/lang/invoke/VarHandle" ∧ (parseMethodDescriptor yX3_station.desc).map (fun d => d.parameters.length) = some 2 := by decide +kernel
set_option maxHeartbeats 4000000 in
set_option maxRecDepth 100000 in
theorem c_X3_station {l : Launch} {G : gT} {A : Nat → Prop} {H0 : Heap} {zA : Nat × Nat} {ro : Nat → Prop} {n hn : Nat} {L T : Nat → Int32} {o : List Nat} {sa fa ta ha : Nat → Nat} {F U : Nat → Nat → Int32} {aS aB aH xa rb0 ms9 : Nat} {x1 x2 : Int32} (hxo : pt G xa (.inr (3, [.ref aS, .ref aB, .ref aH, .ref rb0, .ref ms9])) H0) (hcr : crO G ro n hn L T o sa fa ta ha F U aS aB aH H0) (hg : OK n hn L T) (ho : IsOrd (fun s => gL L s 0) n o) (hst : l.stackTraces = false) : VzI G zA l yX3_station wsX3_station rmX3_station [.ref xa, .int x1, .int x2] H0 A 1 6 [eIX] (k1 (vS n x1 && inR (nI 0) (nI 5) x2)) (fun r H1 => r = stV hn L T x1.toNatClampNeg x2.toNatClampNeg) := by
  refine x_headx (bytes := cX3_station) (maxL := 3) (ret := (some .int)) (by decide) rfl (Nat.le_of_ble_eq_true rfl) ?_
  intro p e s m below meth c ls hx hb hml hown hts hr hlk hnm hK hs0 hl Q hQ hZ hxt
  have hl : lv_has ls 3 [(0, .ref xa), (1, .int x1), (2, .int x2)] := hl
  have hC : CallFix p m c cX3_station 3 s [.ref xa, .int x1, .int x2].toArray wsX3_station RX3 := ⟨hx, hb, hml, hown, hts⟩
  have k_cl70 := hts (.classLink RX3 70 eIX) (by decide +kernel)
  have k_inieIX := hts (.initialized eIX) (by decide +kernel)
  have at_eIX : ∀ w ∈ (vx_at0 RX3 72 eIX xN).filter goodWord, w ∈ wsX3_station := by decide +kernel
  have k_f12 := hts (.fieldLink RX3 12 "SundogLine" "stations" "Ljava/util/ArrayList;") (by decide +kernel)
  have in_X3 : ∀ w ∈ u_ws RX3 TX3 5, w ∈ wsX3_station := by decide +kernel
  have k_cl51 := hts (.classLink RX3 51 "SundogLine$Station") (by decide +kernel)
  have hN := hZ.nn
  have hS : va_S A H0 H0 [] := va_S.rf
  have hn12 := hg.n
  have hh16 := hg.hn
  refine lv_aload_n hx hb dX3_station_0 rfl (lv_at hl 0 rfl) ?_
  refine lv_iload_n hx hb dX3_station_1 rfl (lv_at hl 1 rfl) ?_
  refine x_rd (va_runV (As := [.int x1]) (rest := []) hC (c_X3_noStation (hxo) (hcr) hg) (cwV 1 hts gX3_station_X3_noStation rfl rfl rfl qdX3_noStation ⟨Nat.le_of_ble_eq_true rfl, Nat.le_of_ble_eq_true rfl⟩) (x_preV hK (x_recv hK (hxo) rfl)) rfl rfl hl.1 rfl (lv_room (Nat.le_of_ble_eq_true rfl)) dX3_station_2 ⟨Nat.le_of_ble_eq_true rfl, Nat.le_of_ble_eq_true rfl⟩) ?_
  refine x_if_neB (tgt := 17) hx hb dX3_station_5 (by decide) (fun c_1 => ?_) (fun c_1 => ?_)
  · have hkk9 : k1 (vS n x1 && inR (nI 0) (nI 5) x2) = 1 := by simp only [k1, k2, k3, Bool.and_true, Bool.true_and, Bool.and_false, Bool.false_and, Bool.not_true, Bool.not_false, bnt c_1] <;> rfl
    exact x_throw (cls := eIX) hQ hx hb hst hs0 hZ hS rfl hown (Or.inl rfl) (by decide) k_cl70 k_inieIX (fun w hw => hts w (at_eIX w hw)) xb_eIX xg_eIX (hl.1.trans hml.symm) dX3_station_17 dX3_station_20 dX3_station_21 dX3_station_24 hxt (Nat.le_of_ble_eq_true rfl) (Nat.le_of_ble_eq_true rfl) (Nat.le_of_ble_eq_true rfl) (Nat.le_of_ble_eq_true rfl) hlk hS.2.2 (by decide) (by decide) (by rw [hkk9]; exact ⟨by decide, rfl⟩)
  · refine lv_iload_n hx hb dX3_station_8 rfl (lv_at hl 2 rfl) ?_
    refine lv_iconst (v := nI 0) hx hb dX3_station_9 (by decide +kernel) ?_
    refine lv_iconst (v := nI 5) hx hb dX3_station_10 (by decide +kernel) ?_
    refine x_rd (va_runS (As := [.int x2, .int (nI 0), .int (nI 5)]) (rest := []) hC (c_X3_outside) (cwS 3 hts gX3_station_X3_outside rfl rfl rfl qdX3_outside ⟨Nat.le_of_ble_eq_true rfl, Nat.le_of_ble_eq_true rfl⟩) (x_preS hK) rfl rfl hl.1 rfl (lv_room (Nat.le_of_ble_eq_true rfl)) dX3_station_11 ⟨Nat.le_of_ble_eq_true rfl, Nat.le_of_ble_eq_true rfl⟩) ?_
    refine x_if_eqB (tgt := 25) hx hb dX3_station_14 (by decide) (fun c_2 => ?_) (fun c_2 => ?_)
    · obtain ⟨i, hi, rfl⟩ := inR_nat (show n < 2 ^ 30 by omega) (bnf c_1)
      obtain ⟨kk, hkk, rfl⟩ := inR_natL (n := 5) (by decide) (bnf c_2)
      refine lv_aload_n hx hb dX3_station_25 rfl (lv_at hl 0 rfl) ?_
      refine lv_aload_n hx hb dX3_station_26 rfl (lv_at hl 0 rfl) ?_
      refine x_get (T := TX3) (N := 5) (v := .ref aS) hx hb hts in_X3 hown hK (hxo) rfl 0 (by decide) k_f12 (fun _ h9 => h9) (rfl) dX3_station_27 ?_
      refine lv_iload_n hx hb dX3_station_30 rfl (lv_at hl 1 rfl) ?_
      refine x_rd (va_runV (As := [.int (nI i)]) (rest := [.ref xa]) hC (c_get (hcr.lS) (by omega)) (cwV 1 hts gX3_station_Jx4a65c_get_915e3 rfl rfl rfl qdJx4a65c_get_915e3 ⟨Nat.le_of_ble_eq_true rfl, Nat.le_of_ble_eq_true rfl⟩) (x_preV hK (alR_recv hK (hcr.lS))) rfl rfl hl.1 rfl (lv_room (Nat.le_of_ble_eq_true rfl)) dX3_station_31 ⟨Nat.le_of_ble_eq_true rfl, Nat.le_of_ble_eq_true rfl⟩) ?_
      refine x_cast hx hb hown k_cl51 hK ((hcr.st (show i < n by omega)).1) rfl dX3_station_34 ?_
      refine lv_iload_n hx hb dX3_station_37 rfl (lv_at hl 2 rfl) ?_
      refine x_rd (va_runV (As := [.ref (sa i), .int (nI kk)]) (rest := []) hC (c_X3_tellOfStation (hxo) (hcr) hg (show i < n by omega) (by omega)) (cwV 2 hts gX3_station_X3_tellOfStation rfl rfl rfl qdX3_tellOfStation ⟨Nat.le_of_ble_eq_true rfl, Nat.le_of_ble_eq_true rfl⟩) (x_preV hK (x_recv hK (hxo) rfl)) rfl rfl hl.1 rfl (lv_room (Nat.le_of_ble_eq_true rfl)) dX3_station_38 ⟨Nat.le_of_ble_eq_true rfl, Nat.le_of_ble_eq_true rfl⟩) ?_
      have hkk9 : k1 (vS n (nI i) && inR (nI 0) (nI 5) (nI kk)) = 0 := by simp only [k1, k2, k3, Bool.and_true, Bool.true_and, Bool.and_false, Bool.false_and, Bool.not_true, Bool.not_false, bnf c_1, bnf c_2] <;> rfl
      refine W.widen (k := 1) (n := 6) (Nat.zero_le _) (Nat.zero_le _) ?_
      refine x_vxret hQ ?_
      exact x_iret rfl hx hb hr rfl hlk hS.2.2 dX3_station_41 ⟨hS.fr, hkk9, by rw [nI_clamp (show i < 2 ^ 31 by omega), nI_clamp (show kk < 2 ^ 31 by omega)]⟩
    · have hkk9 : k1 (vS n x1 && inR (nI 0) (nI 5) x2) = 1 := by simp only [k1, k2, k3, Bool.and_true, Bool.true_and, Bool.and_false, Bool.false_and, Bool.not_true, Bool.not_false, bnf c_1, bnt c_2] <;> rfl
      exact x_throw (cls := eIX) hQ hx hb hst hs0 hZ hS rfl hown (Or.inl rfl) (by decide) k_cl70 k_inieIX (fun w hw => hts w (at_eIX w hw)) xb_eIX xg_eIX (hl.1.trans hml.symm) dX3_station_17 dX3_station_20 dX3_station_21 dX3_station_24 hxt (Nat.le_of_ble_eq_true rfl) (Nat.le_of_ble_eq_true rfl) (Nat.le_of_ble_eq_true rfl) (Nat.le_of_ble_eq_true rfl) hlk hS.2.2 (by decide) (by decide) (by rw [hkk9]; exact ⟨by decide, rfl⟩)
abbrev rmX3_count : Room := { frames := 6, cells := 1, slots := 6, locals := 130 }
theorem qdX3_count : yX3_count.cls = RX3 ∧ yX3_count.cls ≠ "java/lang/invoke/MethodHandle" ∧ yX3_count.cls ≠ "java/lang/invoke/VarHandle" ∧ (parseMethodDescriptor yX3_count.desc).map (fun d => d.parameters.length) = some 1 := by decide +kernel
set_option maxHeartbeats 4000000 in
set_option maxRecDepth 100000 in
theorem c_X3_count {l : Launch} {G : gT} {A : Nat → Prop} {H0 : Heap} {zA : Nat × Nat} {ro : Nat → Prop} {n hn : Nat} {L T : Nat → Int32} {o : List Nat} {sa fa ta ha : Nat → Nat} {F U : Nat → Nat → Int32} {aS aB aH xa rb0 ms9 : Nat} {x1 : Int32} (hxo : pt G xa (.inr (3, [.ref aS, .ref aB, .ref aH, .ref rb0, .ref ms9])) H0) (hcr : crO G ro n hn L T o sa fa ta ha F U aS aB aH H0) (hg : OK n hn L T) (ho : IsOrd (fun s => gL L s 0) n o) (hst : l.stackTraces = false) : VzI G zA l yX3_count wsX3_count rmX3_count [.ref xa, .int x1] H0 A 1 6 [eIX] (k1 (inR (nI 0) (nI 4) x1)) (fun r H1 => r = cv n hn L T o x1.toNatClampNeg) := by
  refine x_headx (bytes := cX3_count) (maxL := 2) (ret := (some .int)) (by decide) rfl (Nat.le_of_ble_eq_true rfl) ?_
  intro p e s m below meth c ls hx hb hml hown hts hr hlk hnm hK hs0 hl Q hQ hZ hxt
  have hl : lv_has ls 2 [(0, .ref xa), (1, .int x1)] := hl
  have hC : CallFix p m c cX3_count 2 s [.ref xa, .int x1].toArray wsX3_count RX3 := ⟨hx, hb, hml, hown, hts⟩
  have k_cl70 := hts (.classLink RX3 70 eIX) (by decide +kernel)
  have k_inieIX := hts (.initialized eIX) (by decide +kernel)
  have at_eIX : ∀ w ∈ (vx_at0 RX3 72 eIX xN).filter goodWord, w ∈ wsX3_count := by decide +kernel
  have hN := hZ.nn
  have hS : va_S A H0 H0 [] := va_S.rf
  have hn12 := hg.n
  have hh16 := hg.hn
  refine lv_iload_n hx hb dX3_count_0 rfl (lv_at hl 1 rfl) ?_
  refine lv_iconst (v := nI 0) hx hb dX3_count_1 (by decide +kernel) ?_
  refine lv_iconst (v := nI 4) hx hb dX3_count_2 (by decide +kernel) ?_
  refine x_rd (va_runS (As := [.int x1, .int (nI 0), .int (nI 4)]) (rest := []) hC (c_X3_outside) (cwS 3 hts gX3_count_X3_outside rfl rfl rfl qdX3_outside ⟨Nat.le_of_ble_eq_true rfl, Nat.le_of_ble_eq_true rfl⟩) (x_preS hK) rfl rfl hl.1 rfl (lv_room (Nat.le_of_ble_eq_true rfl)) dX3_count_3 ⟨Nat.le_of_ble_eq_true rfl, Nat.le_of_ble_eq_true rfl⟩) ?_
  refine x_if_eqB (tgt := 17) hx hb dX3_count_6 (by decide) (fun c_1 => ?_) (fun c_1 => ?_)
  · obtain ⟨kk, hkk, rfl⟩ := inR_natL (n := 4) (by decide) (bnf c_1)
    refine lv_aload_n hx hb dX3_count_17 rfl (lv_at hl 0 rfl) ?_
    refine lv_iload_n hx hb dX3_count_18 rfl (lv_at hl 1 rfl) ?_
    refine x_rd (va_runV (As := [.int (nI kk)]) (rest := []) hC (c_X3_countOf (hxo) (hcr) hg ho (by omega)) (cwV 1 hts gX3_count_X3_countOf rfl rfl rfl qdX3_countOf ⟨Nat.le_of_ble_eq_true rfl, Nat.le_of_ble_eq_true rfl⟩) (x_preV hK (x_recv hK (hxo) rfl)) rfl rfl hl.1 rfl (lv_room (Nat.le_of_ble_eq_true rfl)) dX3_count_19 ⟨Nat.le_of_ble_eq_true rfl, Nat.le_of_ble_eq_true rfl⟩) ?_
    have hkk9 : k1 (inR (nI 0) (nI 4) (nI kk)) = 0 := by simp only [k1, k2, k3, Bool.and_true, Bool.true_and, Bool.and_false, Bool.false_and, Bool.not_true, Bool.not_false, bnf c_1] <;> rfl
    refine W.widen (k := 1) (n := 6) (Nat.zero_le _) (Nat.zero_le _) ?_
    refine x_vxret hQ ?_
    exact x_iret rfl hx hb hr rfl hlk hS.2.2 dX3_count_22 ⟨hS.fr, hkk9, by rw [nI_clamp (show kk < 2 ^ 31 by omega)]⟩
  · have hkk9 : k1 (inR (nI 0) (nI 4) x1) = 1 := by simp only [k1, k2, k3, Bool.and_true, Bool.true_and, Bool.and_false, Bool.false_and, Bool.not_true, Bool.not_false, bnt c_1] <;> rfl
    exact x_throw (cls := eIX) hQ hx hb hst hs0 hZ hS rfl hown (Or.inl rfl) (by decide) k_cl70 k_inieIX (fun w hw => hts w (at_eIX w hw)) xb_eIX xg_eIX (hl.1.trans hml.symm) dX3_count_9 dX3_count_12 dX3_count_13 dX3_count_16 hxt (Nat.le_of_ble_eq_true rfl) (Nat.le_of_ble_eq_true rfl) (Nat.le_of_ble_eq_true rfl) (Nat.le_of_ble_eq_true rfl) hlk hS.2.2 (by decide) (by decide) (by rw [hkk9]; exact ⟨by decide, rfl⟩)
abbrev rmX3_wire : Room := { frames := 6, cells := 1, slots := 6, locals := 90 }
theorem qdX3_wire : yX3_wire.cls = RX3 ∧ yX3_wire.cls ≠ "java/lang/invoke/MethodHandle" ∧ yX3_wire.cls ≠ "java/lang/invoke/VarHandle" ∧ (parseMethodDescriptor yX3_wire.desc).map (fun d => d.parameters.length) = some 3 := by decide +kernel
set_option maxHeartbeats 4000000 in
set_option maxRecDepth 100000 in
theorem c_X3_wire {l : Launch} {G : gT} {A : Nat → Prop} {H0 : Heap} {zA : Nat × Nat} {ro : Nat → Prop} {n hn : Nat} {L T : Nat → Int32} {o : List Nat} {sa fa ta ha : Nat → Nat} {F U : Nat → Nat → Int32} {aS aB aH xa rb0 ms9 : Nat} {x1 x2 x3 : Int32} (hxo : pt G xa (.inr (3, [.ref aS, .ref aB, .ref aH, .ref rb0, .ref ms9])) H0) (hcr : crO G ro n hn L T o sa fa ta ha F U aS aB aH H0) (hg : OK n hn L T) (ho : IsOrd (fun s => gL L s 0) n o) (hst : l.stackTraces = false) : VzI G zA l yX3_wire wsX3_wire rmX3_wire [.ref xa, .int x1, .int x2, .int x3] H0 A 1 6 [eIX, eIA] (k2 (vS n x1 && vS n x2) (inR (nI 0) (nI 1000000) x3)) (fun r H1 => r = clk L x2.toNatClampNeg (x3 + ab (gL L x2.toNatClampNeg 0 - gL L x1.toNatClampNeg 0) / nI 3) - clk L x1.toNatClampNeg x3) := by
  refine x_headx (bytes := cX3_wire) (maxL := 7) (ret := (some .int)) (by decide) rfl (Nat.le_of_ble_eq_true rfl) ?_
  intro p e s m below meth c ls hx hb hml hown hts hr hlk hnm hK hs0 hl Q hQ hZ hxt
  have hl : lv_has ls 7 [(0, .ref xa), (1, .int x1), (2, .int x2), (3, .int x3)] := hl
  have hC : CallFix p m c cX3_wire 7 s [.ref xa, .int x1, .int x2, .int x3].toArray wsX3_wire RX3 := ⟨hx, hb, hml, hown, hts⟩
  have k_cl70 := hts (.classLink RX3 70 eIX) (by decide +kernel)
  have k_inieIX := hts (.initialized eIX) (by decide +kernel)
  have at_eIX : ∀ w ∈ (vx_at0 RX3 72 eIX xN).filter goodWord, w ∈ wsX3_wire := by decide +kernel
  have k_c98 := hts (.constant RX3 98 (1000000)) (by decide +kernel)
  have k_f12 := hts (.fieldLink RX3 12 "SundogLine" "stations" "Ljava/util/ArrayList;") (by decide +kernel)
  have in_X3 : ∀ w ∈ u_ws RX3 TX3 5, w ∈ wsX3_wire := by decide +kernel
  have k_cl51 := hts (.classLink RX3 51 "SundogLine$Station") (by decide +kernel)
  have k_f108 := hts (.fieldLink RX3 108 "SundogLine$Station" "place" "I") (by decide +kernel)
  have in_X2 : ∀ w ∈ u_ws RX2 TX2 8, w ∈ wsX3_wire := by decide +kernel
  have k_m148 := hts (.methodLink RX3 148 Lib.Math.abs.name) (by decide +kernel)
  have k_msabs := hts (.static Lib.Math.abs.name) (by decide +kernel)
  have k_mi := hts (.initialized "java/lang/Math") (by decide +kernel)
  have k_mcabs := hts (.code Lib.Math.abs.name Lib.Math.abs.code 1 (some .int)) (by decide +kernel)
  have k_cl37 := hts (.classLink RX3 37 eIA) (by decide +kernel)
  have k_inieIA := hts (.initialized eIA) (by decide +kernel)
  have at_eIA : ∀ w ∈ (vx_at0 RX3 39 eIA xN).filter goodWord, w ∈ wsX3_wire := by decide +kernel
  have hN := hZ.nn
  have hS : va_S A H0 H0 [] := va_S.rf
  have hn12 := hg.n
  have hh16 := hg.hn
  refine lv_aload_n hx hb dX3_wire_0 rfl (lv_at hl 0 rfl) ?_
  refine lv_iload_n hx hb dX3_wire_1 rfl (lv_at hl 1 rfl) ?_
  refine x_rd (va_runV (As := [.int x1]) (rest := []) hC (c_X3_noStation (hxo) (hcr) hg) (cwV 1 hts gX3_wire_X3_noStation rfl rfl rfl qdX3_noStation ⟨Nat.le_of_ble_eq_true rfl, Nat.le_of_ble_eq_true rfl⟩) (x_preV hK (x_recv hK (hxo) rfl)) rfl rfl hl.1 rfl (lv_room (Nat.le_of_ble_eq_true rfl)) dX3_wire_2 ⟨Nat.le_of_ble_eq_true rfl, Nat.le_of_ble_eq_true rfl⟩) ?_
  refine x_if_neB (tgt := 16) hx hb dX3_wire_5 (by decide) (fun c_1 => ?_) (fun c_1 => ?_)
  · have hkk9 : k2 (vS n x1 && vS n x2) (inR (nI 0) (nI 1000000) x3) = 1 := by simp only [k1, k2, k3, Bool.and_true, Bool.true_and, Bool.and_false, Bool.false_and, Bool.not_true, Bool.not_false, bnt c_1] <;> rfl
    exact x_throw (cls := eIX) hQ hx hb hst hs0 hZ hS rfl hown (Or.inl rfl) (by decide) k_cl70 k_inieIX (fun w hw => hts w (at_eIX w hw)) xb_eIX xg_eIX (hl.1.trans hml.symm) dX3_wire_16 dX3_wire_19 dX3_wire_20 dX3_wire_23 hxt (Nat.le_of_ble_eq_true rfl) (Nat.le_of_ble_eq_true rfl) (Nat.le_of_ble_eq_true rfl) (Nat.le_of_ble_eq_true rfl) hlk hS.2.2 (by decide) (by decide) (by rw [hkk9]; exact ⟨by decide, rfl⟩)
  · refine lv_aload_n hx hb dX3_wire_8 rfl (lv_at hl 0 rfl) ?_
    refine lv_iload_n hx hb dX3_wire_9 rfl (lv_at hl 2 rfl) ?_
    refine x_rd (va_runV (As := [.int x2]) (rest := []) hC (c_X3_noStation (hxo) (hcr) hg) (cwV 1 hts gX3_wire_X3_noStation rfl rfl rfl qdX3_noStation ⟨Nat.le_of_ble_eq_true rfl, Nat.le_of_ble_eq_true rfl⟩) (x_preV hK (x_recv hK (hxo) rfl)) rfl rfl hl.1 rfl (lv_room (Nat.le_of_ble_eq_true rfl)) dX3_wire_10 ⟨Nat.le_of_ble_eq_true rfl, Nat.le_of_ble_eq_true rfl⟩) ?_
    refine x_if_eqB (tgt := 24) hx hb dX3_wire_13 (by decide) (fun c_2 => ?_) (fun c_2 => ?_)
    · refine lv_iload_n hx hb dX3_wire_24 rfl (lv_at hl 3 rfl) ?_
      refine lv_iconst (v := nI 0) hx hb dX3_wire_25 (by decide +kernel) ?_
      refine lv_ldc (v := nI 1000000) hx hb hown k_c98 dX3_wire_26 ?_
      refine x_rd (va_runS (As := [.int x3, .int (nI 0), .int (nI 1000000)]) (rest := []) hC (c_X3_outside) (cwS 3 hts gX3_wire_X3_outside rfl rfl rfl qdX3_outside ⟨Nat.le_of_ble_eq_true rfl, Nat.le_of_ble_eq_true rfl⟩) (x_preS hK) rfl rfl hl.1 rfl (lv_room (Nat.le_of_ble_eq_true rfl)) dX3_wire_28 ⟨Nat.le_of_ble_eq_true rfl, Nat.le_of_ble_eq_true rfl⟩) ?_
      refine x_if_eqB (tgt := 42) hx hb dX3_wire_31 (by decide) (fun c_3 => ?_) (fun c_3 => ?_)
      · obtain ⟨i1, hi1, rfl⟩ := inR_nat (show n < 2 ^ 30 by omega) (bnf c_1)
        obtain ⟨i2, hi2, rfl⟩ := inR_nat (show n < 2 ^ 30 by omega) (bnf c_2)
        refine lv_aload_n hx hb dX3_wire_42 rfl (lv_at hl 0 rfl) ?_
        refine x_get (T := TX3) (N := 5) (v := .ref aS) hx hb hts in_X3 hown hK (hxo) rfl 0 (by decide) k_f12 (fun _ h9 => h9) (rfl) dX3_wire_43 ?_
        refine lv_iload_n hx hb dX3_wire_46 rfl (lv_at hl 1 rfl) ?_
        refine x_rd (va_runV (As := [.int (nI i1)]) (rest := []) hC (c_get (hcr.lS) (by omega)) (cwV 1 hts gX3_wire_Jx4a65c_get_915e3 rfl rfl rfl qdJx4a65c_get_915e3 ⟨Nat.le_of_ble_eq_true rfl, Nat.le_of_ble_eq_true rfl⟩) (x_preV hK (alR_recv hK (hcr.lS))) rfl rfl hl.1 rfl (lv_room (Nat.le_of_ble_eq_true rfl)) dX3_wire_47 ⟨Nat.le_of_ble_eq_true rfl, Nat.le_of_ble_eq_true rfl⟩) ?_
        refine x_cast hx hb hown k_cl51 hK ((hcr.st (show i1 < n by omega)).1) rfl dX3_wire_50 ?_
        refine lv_astore (lv' := [(4, .ref (sa i1)), (0, .ref xa), (1, .int (nI i1)), (2, .int (nI i2)), (3, .int x3)]) hx hb dX3_wire_53 hl (by decide) rfl (fun ls hl => ?_)
        refine lv_aload_n hx hb dX3_wire_55 rfl (lv_at hl 1 rfl) ?_
        refine x_get (T := TX3) (N := 5) (v := .ref aS) hx hb hts in_X3 hown hK (hxo) rfl 0 (by decide) k_f12 (fun _ h9 => h9) (rfl) dX3_wire_56 ?_
        refine lv_iload_n hx hb dX3_wire_59 rfl (lv_at hl 3 rfl) ?_
        refine x_rd (va_runV (As := [.int (nI i2)]) (rest := []) hC (c_get (hcr.lS) (by omega)) (cwV 1 hts gX3_wire_Jx4a65c_get_915e3 rfl rfl rfl qdJx4a65c_get_915e3 ⟨Nat.le_of_ble_eq_true rfl, Nat.le_of_ble_eq_true rfl⟩) (x_preV hK (alR_recv hK (hcr.lS))) rfl rfl hl.1 rfl (lv_room (Nat.le_of_ble_eq_true rfl)) dX3_wire_60 ⟨Nat.le_of_ble_eq_true rfl, Nat.le_of_ble_eq_true rfl⟩) ?_
        refine x_cast hx hb hown k_cl51 hK ((hcr.st (show i2 < n by omega)).1) rfl dX3_wire_63 ?_
        refine lv_astore (lv' := [(5, .ref (sa i2)), (4, .ref (sa i1)), (0, .ref xa), (1, .int (nI i1)), (2, .int (nI i2)), (3, .int x3)]) hx hb dX3_wire_66 hl (by decide) rfl (fun ls hl => ?_)
        refine lv_iload_n hx hb dX3_wire_68 rfl (lv_at hl 5 rfl) ?_
        refine lv_aload hx hb dX3_wire_69 (lv_at hl 0 rfl) ?_
        refine x_get (T := TX2) (N := 8) (v := .int (gL L i2 0)) hx hb hts in_X2 hown hK ((hcr.st (show i2 < n by omega)).1) rfl 1 (by decide) k_f108 (fun _ h9 => h9) (rfl) dX3_wire_71 ?_
        refine lv_aload hx hb dX3_wire_74 (lv_at hl 1 rfl) ?_
        refine x_get (T := TX2) (N := 8) (v := .int (gL L i1 0)) hx hb hts in_X2 hown hK ((hcr.st (show i1 < n by omega)).1) rfl 1 (by decide) k_f108 (fun _ h9 => h9) (rfl) dX3_wire_76 ?_
        refine lv_isub hx hb dX3_wire_79 ?_
        refine va_mabs hx hb (hml.trans hl.1.symm) hown k_m148 k_msabs k_mi k_mcabs (by decide) (Nat.le_of_ble_eq_true rfl) (Nat.zero_le _) (Nat.zero_le _) dX3_wire_80 ?_
        refine W.eq (g2 := F0 m 83 ls [.int (ab ((gL L i2 0) - (gL L i1 0))), .int x3]) rfl ?_
        refine lv_iconst (v := nI 3) hx hb dX3_wire_83 (by decide +kernel) ?_
        refine lv_idiv hx hb dX3_wire_84 (by decide) ?_
        refine lv_iadd hx hb dX3_wire_85 ?_
        refine lv_istore (lv' := [(6, .int (x3 + ((ab ((gL L i2 0) - (gL L i1 0))) / (nI 3)))), (5, .ref (sa i2)), (4, .ref (sa i1)), (0, .ref xa), (1, .int (nI i1)), (2, .int (nI i2)), (3, .int x3)]) hx hb dX3_wire_86 hl (by decide) rfl (fun ls hl => ?_)
        refine lv_aload hx hb dX3_wire_88 (lv_at hl 1 rfl) ?_
        refine lv_iload hx hb dX3_wire_90 (lv_at hl 0 rfl) ?_
        refine x_rd (va_runV (As := [.int (x3 + ((ab ((gL L i2 0) - (gL L i1 0))) / (nI 3)))]) (rest := []) hC (c_X2_readsAt (hcr.st (show i2 < n by omega))) (cwV 1 hts gX3_wire_X2_readsAt rfl rfl rfl qdX2_readsAt ⟨Nat.le_of_ble_eq_true rfl, Nat.le_of_ble_eq_true rfl⟩) (x_preV hK (x_recv hK ((hcr.st (show i2 < n by omega)).1) rfl)) rfl rfl hl.1 rfl (lv_room (Nat.le_of_ble_eq_true rfl)) dX3_wire_92 ⟨Nat.le_of_ble_eq_true rfl, Nat.le_of_ble_eq_true rfl⟩) ?_
        refine lv_aload hx hb dX3_wire_95 (lv_at hl 2 rfl) ?_
        refine lv_iload_n hx hb dX3_wire_97 rfl (lv_at hl 6 rfl) ?_
        refine x_rd (va_runV (As := [.int x3]) (rest := [.int (clk L i2 (x3 + ((ab ((gL L i2 0) - (gL L i1 0))) / (nI 3))))]) hC (c_X2_readsAt (hcr.st (show i1 < n by omega))) (cwV 1 hts gX3_wire_X2_readsAt rfl rfl rfl qdX2_readsAt ⟨Nat.le_of_ble_eq_true rfl, Nat.le_of_ble_eq_true rfl⟩) (x_preV hK (x_recv hK ((hcr.st (show i1 < n by omega)).1) rfl)) rfl rfl hl.1 rfl (lv_room (Nat.le_of_ble_eq_true rfl)) dX3_wire_98 ⟨Nat.le_of_ble_eq_true rfl, Nat.le_of_ble_eq_true rfl⟩) ?_
        refine lv_isub hx hb dX3_wire_101 ?_
        have hkk9 : k2 (vS n (nI i1) && vS n (nI i2)) (inR (nI 0) (nI 1000000) x3) = 0 := by simp only [k1, k2, k3, Bool.and_true, Bool.true_and, Bool.and_false, Bool.false_and, Bool.not_true, Bool.not_false, bnf c_1, bnf c_2, bnf c_3] <;> rfl
        refine W.widen (k := 1) (n := 6) (Nat.zero_le _) (Nat.zero_le _) ?_
        refine x_vxret hQ ?_
        exact x_iret rfl hx hb hr rfl hlk hS.2.2 dX3_wire_102 ⟨hS.fr, hkk9, by rw [nI_clamp (show i1 < 2 ^ 31 by omega), nI_clamp (show i2 < 2 ^ 31 by omega)]⟩
      · have hkk9 : k2 (vS n x1 && vS n x2) (inR (nI 0) (nI 1000000) x3) = 2 := by simp only [k1, k2, k3, Bool.and_true, Bool.true_and, Bool.and_false, Bool.false_and, Bool.not_true, Bool.not_false, bnf c_1, bnf c_2, bnt c_3] <;> rfl
        exact x_throw (cls := eIA) hQ hx hb hst hs0 hZ hS rfl hown (Or.inr (Or.inl rfl)) (by decide) k_cl37 k_inieIA (fun w hw => hts w (at_eIA w hw)) xb_eIA xg_eIA (hl.1.trans hml.symm) dX3_wire_34 dX3_wire_37 dX3_wire_38 dX3_wire_41 hxt (Nat.le_of_ble_eq_true rfl) (Nat.le_of_ble_eq_true rfl) (Nat.le_of_ble_eq_true rfl) (Nat.le_of_ble_eq_true rfl) hlk hS.2.2 (by decide) (by decide) (by rw [hkk9]; exact ⟨by decide, rfl⟩)
    · have hkk9 : k2 (vS n x1 && vS n x2) (inR (nI 0) (nI 1000000) x3) = 1 := by simp only [k1, k2, k3, Bool.and_true, Bool.true_and, Bool.and_false, Bool.false_and, Bool.not_true, Bool.not_false, bnf c_1, bnt c_2] <;> rfl
      exact x_throw (cls := eIX) hQ hx hb hst hs0 hZ hS rfl hown (Or.inl rfl) (by decide) k_cl70 k_inieIX (fun w hw => hts w (at_eIX w hw)) xb_eIX xg_eIX (hl.1.trans hml.symm) dX3_wire_16 dX3_wire_19 dX3_wire_20 dX3_wire_23 hxt (Nat.le_of_ble_eq_true rfl) (Nat.le_of_ble_eq_true rfl) (Nat.le_of_ble_eq_true rfl) (Nat.le_of_ble_eq_true rfl) hlk hS.2.2 (by decide) (by decide) (by rw [hkk9]; exact ⟨by decide, rfl⟩)
