abbrev rmX3_halo : Room := { frames := 6, cells := 1, slots := 6, locals := 111 }
theorem qdX3_halo : yX3_halo.cls = RX3 ∧ yX3_halo.cls ≠ "java/lang/invoke/MethodHandle" ∧ yX3_halo.cls ≠ "java/lang/invoke/VarHandle" ∧ (parseMethodDescriptor yX3_halo.desc).map (fun d => d.parameters.length) = some 2 := by decide +kernel
set_option maxHeartbeats 4000000 in
set_option maxRecDepth 100000 in
theorem c_X3_halo {l : Launch} {G : gT} {A : Nat → Prop} {H0 : Heap} {zA : Nat × Nat} {ro : Nat → Prop} {n hn : Nat} {L T : Nat → Int32} {o : List Nat} {sa fa ta ha : Nat → Nat} {F U : Nat → Nat → Int32} {aS aB aH xa ms9 : Nat} {rb : Nat → Nat} {ri : Nat → Int32} {ra : Nat → Nat → Int32} {x1 x2 : Int32} (hxo : pt G xa (.inr (3, [.ref aS, .ref aB, .ref aH, .ref (rb 0), .ref ms9])) H0) (hcr : crO G ro n hn L T o sa fa ta ha F U aS aB aH H0) (hg : OK n hn L T) (ho : IsOrd (fun s => gL L s 0) n o) (hP : rP G rb ri ra H0) (hD : va_D A (rW G rb ri ra)) (hro : ∀ q, ro q → ¬ A q) (hxA : ¬ A xa) (hst : l.stackTraces = false) : VzI G zA l yX3_halo wsX3_halo rmX3_halo [.ref xa, .int x1, .int x2] H0 A 1 6 [eIX] (k1 (vS hn x1 && inR (nI 0) (nI 6) x2)) (fun r H1 => (r = hv L T o x1.toNatClampNeg x2.toNatClampNeg) ∧ ∃ ri1 ra1, rP G rb ri1 ra1 H1) := by
  refine x_headx (bytes := cX3_halo) (maxL := 3) (ret := (some .int)) (by decide) rfl (Nat.le_of_ble_eq_true rfl) ?_
  intro p e s m below meth c ls hx hb hml hown hts hr hlk hnm hK hs0 hl Q hQ hZ hxt
  have hl : lv_has ls 3 [(0, .ref xa), (1, .int x1), (2, .int x2)] := hl
  have hC : CallFix p m c cX3_halo 3 s [.ref xa, .int x1, .int x2].toArray wsX3_halo RX3 := ⟨hx, hb, hml, hown, hts⟩
  have k_cl70 := hts (.classLink RX3 70 eIX) (by decide +kernel)
  have k_inieIX := hts (.initialized eIX) (by decide +kernel)
  have at_eIX : ∀ w ∈ (vx_at0 RX3 72 eIX xN).filter goodWord, w ∈ wsX3_halo := by decide +kernel
  have k_f25 := hts (.fieldLink RX3 25 "SundogLine" "reckoning" "LSundogLine$Reckoning;") (by decide +kernel)
  have in_X3 : ∀ w ∈ u_ws RX3 TX3 5, w ∈ wsX3_halo := by decide +kernel
  have k_f19 := hts (.fieldLink RX3 19 "SundogLine" "halos" "Ljava/util/ArrayList;") (by decide +kernel)
  have k_cl102 := hts (.classLink RX3 102 RX0) (by decide +kernel)
  have k_f16 := hts (.fieldLink RX3 16 "SundogLine" "byPlace" "Ljava/util/ArrayList;") (by decide +kernel)
  have hN := hZ.nn
  have hS : va_S A H0 H0 [] := va_S.rf
  have hn12 := hg.n
  have hh16 := hg.hn
  refine lv_aload_n hx hb dX3_halo_0 rfl (lv_at hl 0 rfl) ?_
  refine lv_iload_n hx hb dX3_halo_1 rfl (lv_at hl 1 rfl) ?_
  refine x_rd (va_runV (As := [.int x1]) (rest := []) hC (c_X3_noHalo ((va_at.kept hxo (hS.2.1 _ hxo.lt hxA))) ((hcr.at hS hro)) hg) (cwV 1 hts gX3_halo_X3_noHalo rfl rfl rfl qdX3_noHalo ⟨Nat.le_of_ble_eq_true rfl, Nat.le_of_ble_eq_true rfl⟩) (x_preV hK (x_recv hK ((va_at.kept hxo (hS.2.1 _ hxo.lt hxA))) rfl)) rfl rfl hl.1 rfl (lv_room (Nat.le_of_ble_eq_true rfl)) dX3_halo_2 ⟨Nat.le_of_ble_eq_true rfl, Nat.le_of_ble_eq_true rfl⟩) ?_
  refine x_if_neB (tgt := 18) hx hb dX3_halo_5 (by decide) (fun c_1 => ?_) (fun c_1 => ?_)
  · have hkk9 : k1 (vS hn x1 && inR (nI 0) (nI 6) x2) = 1 := by simp only [k1, k2, k3, Bool.and_true, Bool.true_and, Bool.and_false, Bool.false_and, Bool.not_true, Bool.not_false, bnt c_1] <;> rfl
    exact x_throw (cls := eIX) hQ hx hb hst hs0 hZ hS rfl hown (Or.inl rfl) (by decide) k_cl70 k_inieIX (fun w hw => hts w (at_eIX w hw)) xb_eIX xg_eIX (hl.1.trans hml.symm) dX3_halo_18 dX3_halo_21 dX3_halo_22 dX3_halo_25 hxt (Nat.le_of_ble_eq_true rfl) (Nat.le_of_ble_eq_true rfl) (Nat.le_of_ble_eq_true rfl) (Nat.le_of_ble_eq_true rfl) hlk hS.2.2 (by decide) (by decide) (by rw [hkk9]; exact ⟨by decide, rfl⟩)
  · refine lv_iload_n hx hb dX3_halo_8 rfl (lv_at hl 2 rfl) ?_
    refine lv_iconst (v := nI 0) hx hb dX3_halo_9 (by decide +kernel) ?_
    refine lv_bipush (v := nI 6) hx hb dX3_halo_10 (by decide +kernel) ?_
    refine x_rd (va_runS (As := [.int x2, .int (nI 0), .int (nI 6)]) (rest := []) hC (c_X3_outside) (cwS 3 hts gX3_halo_X3_outside rfl rfl rfl qdX3_outside ⟨Nat.le_of_ble_eq_true rfl, Nat.le_of_ble_eq_true rfl⟩) (x_preS hK) rfl rfl hl.1 rfl (lv_room (Nat.le_of_ble_eq_true rfl)) dX3_halo_12 ⟨Nat.le_of_ble_eq_true rfl, Nat.le_of_ble_eq_true rfl⟩) ?_
    refine x_if_eqB (tgt := 26) hx hb dX3_halo_15 (by decide) (fun c_2 => ?_) (fun c_2 => ?_)
    · obtain ⟨j, hj, rfl⟩ := inR_nat (show hn < 2 ^ 30 by omega) (bnf c_1)
      obtain ⟨kk, hkk, rfl⟩ := inR_natL (n := 6) (by decide) (bnf c_2)
      refine lv_aload_n hx hb dX3_halo_26 rfl (lv_at hl 0 rfl) ?_
      refine x_get (T := TX3) (N := 5) (v := .ref (rb 0)) hx hb hts in_X3 hown hK ((va_at.kept hxo (hS.2.1 _ hxo.lt hxA))) rfl 3 (by decide) k_f25 (fun _ h9 => h9) (rfl) dX3_halo_27 ?_
      refine lv_aload_n hx hb dX3_halo_30 rfl (lv_at hl 0 rfl) ?_
      refine x_get (T := TX3) (N := 5) (v := .ref aH) hx hb hts in_X3 hown hK ((va_at.kept hxo (hS.2.1 _ hxo.lt hxA))) rfl 2 (by decide) k_f19 (fun _ h9 => h9) (rfl) dX3_halo_31 ?_
      refine lv_iload_n hx hb dX3_halo_34 rfl (lv_at hl 1 rfl) ?_
      refine x_rd (va_runV (As := [.int (nI j)]) (rest := [.ref (rb 0)]) hC (c_get ((hcr.at hS hro).lH) (by omega)) (cwV 1 hts gX3_halo_Jx4a65c_get_915e3 rfl rfl rfl qdJx4a65c_get_915e3 ⟨Nat.le_of_ble_eq_true rfl, Nat.le_of_ble_eq_true rfl⟩) (x_preV hK (alR_recv hK ((hcr.at hS hro).lH))) rfl rfl hl.1 rfl (lv_room (Nat.le_of_ble_eq_true rfl)) dX3_halo_35 ⟨Nat.le_of_ble_eq_true rfl, Nat.le_of_ble_eq_true rfl⟩) ?_
      refine x_cast hx hb hown k_cl102 hK ((hcr.at hS hro).hal (show j < hn by omega)) rfl dX3_halo_38 ?_
      refine lv_aload_n hx hb dX3_halo_41 rfl (lv_at hl 0 rfl) ?_
      refine x_get (T := TX3) (N := 5) (v := .ref aB) hx hb hts in_X3 hown hK ((va_at.kept hxo (hS.2.1 _ hxo.lt hxA))) rfl 1 (by decide) k_f16 (fun _ h9 => h9) (rfl) dX3_halo_42 ?_
      refine x_runv (va_runV (As := [.ref (ha j), .ref aB]) (rest := []) hC (c_X1_reckon (A := A) hP hD (hcr.at hS hro) hro hg ho (show j < hn by omega)) (cwV 2 hts gX3_halo_X1_reckon rfl rfl rfl qdX1_reckon ⟨Nat.le_of_ble_eq_true rfl, Nat.le_of_ble_eq_true rfl⟩) (x_preVn hK hN (x_recv hK (hP 0 _ rfl) rfl)) rfl rfl hl.1 rfl (lv_room (Nat.le_of_ble_eq_true rfl)) dX3_halo_45 ⟨Nat.le_of_ble_eq_true rfl, Nat.le_of_ble_eq_true rfl⟩) hS (fun _ h => h) (fun H locs hfr hΦ hS => ?_)
      obtain ⟨rj3, sj3, hk3, hP⟩ := hΦ
      have hP : rP G rb rj3 sj3 H := hP
      have hD : va_D A (rW G rb rj3 sj3) := hD.same rfl
      have hM12 : (sqL L T o j).length ≤ 12 := Nat.le_trans (sqM_le ho) hn12
      refine lv_aload_n hx hb dX3_halo_48 rfl (lv_at hl 0 rfl) ?_
      refine x_get (T := TX3) (N := 5) (v := .ref (rb 0)) hx hb hts in_X3 hown hK ((va_at.kept hxo (hS.2.1 _ hxo.lt hxA))) rfl 3 (by decide) k_f25 (fun _ h9 => h9) (rfl) dX3_halo_49 ?_
      refine lv_iload_n hx hb dX3_halo_52 rfl (lv_at hl 2 rfl) ?_
      refine x_runi (va_runV (As := [.int (nI kk)]) (rest := []) hC (c_X1_tell hP hD hk3 hM12 (by omega)) (cwV 1 hts gX3_halo_X1_tell rfl rfl rfl qdX1_tell ⟨Nat.le_of_ble_eq_true rfl, Nat.le_of_ble_eq_true rfl⟩) (x_preV hK (x_recv hK (hP 0 _ rfl) rfl)) rfl rfl hl.1 rfl (lv_room (Nat.le_of_ble_eq_true rfl)) dX3_halo_53 ⟨Nat.le_of_ble_eq_true rfl, Nat.le_of_ble_eq_true rfl⟩) hS (fun _ h => h) (fun r_4 H locs hfr hΦ hS => ?_)
      obtain ⟨er_4, v_5, hP⟩ := hΦ
      have hP : rP G rb rj3 (va_up sj3 4 v_5) H := hP
      have hD : va_D A (rW G rb rj3 (va_up sj3 4 v_5)) := hD.same rfl
      rw [er_4]
      have hkk9 : k1 (vS hn (nI j) && inR (nI 0) (nI 6) (nI kk)) = 0 := by simp only [k1, k2, k3, Bool.and_true, Bool.true_and, Bool.and_false, Bool.false_and, Bool.not_true, Bool.not_false, bnf c_1, bnf c_2] <;> rfl
      refine W.widen (k := 1) (n := 6) (Nat.zero_le _) (Nat.zero_le _) ?_
      refine x_vxret hQ ?_
      exact x_iret rfl hx hb hr rfl hlk hS.2.2 dX3_halo_56 ⟨hS.fr, hkk9, ⟨by rw [nI_clamp (show j < 2 ^ 31 by omega), nI_clamp (show kk < 2 ^ 31 by omega)], _, _, hP⟩⟩
    · have hkk9 : k1 (vS hn x1 && inR (nI 0) (nI 6) x2) = 1 := by simp only [k1, k2, k3, Bool.and_true, Bool.true_and, Bool.and_false, Bool.false_and, Bool.not_true, Bool.not_false, bnf c_1, bnt c_2] <;> rfl
      exact x_throw (cls := eIX) hQ hx hb hst hs0 hZ hS rfl hown (Or.inl rfl) (by decide) k_cl70 k_inieIX (fun w hw => hts w (at_eIX w hw)) xb_eIX xg_eIX (hl.1.trans hml.symm) dX3_halo_18 dX3_halo_21 dX3_halo_22 dX3_halo_25 hxt (Nat.le_of_ble_eq_true rfl) (Nat.le_of_ble_eq_true rfl) (Nat.le_of_ble_eq_true rfl) (Nat.le_of_ble_eq_true rfl) hlk hS.2.2 (by decide) (by decide) (by rw [hkk9]; exact ⟨by decide, rfl⟩)
abbrev rmX3_guess : Room := { frames := 6, cells := 1, slots := 6, locals := 111 }
theorem qdX3_guess : yX3_guess.cls = RX3 ∧ yX3_guess.cls ≠ "java/lang/invoke/MethodHandle" ∧ yX3_guess.cls ≠ "java/lang/invoke/VarHandle" ∧ (parseMethodDescriptor yX3_guess.desc).map (fun d => d.parameters.length) = some 2 := by decide +kernel
set_option maxHeartbeats 4000000 in
set_option maxRecDepth 100000 in
theorem c_X3_guess {l : Launch} {G : gT} {A : Nat → Prop} {H0 : Heap} {zA : Nat × Nat} {ro : Nat → Prop} {n hn : Nat} {L T : Nat → Int32} {o : List Nat} {sa fa ta ha : Nat → Nat} {F U : Nat → Nat → Int32} {aS aB aH xa ms9 : Nat} {rb : Nat → Nat} {ri : Nat → Int32} {ra : Nat → Nat → Int32} {x1 x2 : Int32} (hxo : pt G xa (.inr (3, [.ref aS, .ref aB, .ref aH, .ref (rb 0), .ref ms9])) H0) (hcr : crO G ro n hn L T o sa fa ta ha F U aS aB aH H0) (hg : OK n hn L T) (ho : IsOrd (fun s => gL L s 0) n o) (hP : rP G rb ri ra H0) (hD : va_D A (rW G rb ri ra)) (hro : ∀ q, ro q → ¬ A q) (hxA : ¬ A xa) (hst : l.stackTraces = false) : VzI G zA l yX3_guess wsX3_guess rmX3_guess [.ref xa, .int x1, .int x2] H0 A 1 6 [eIX] (k1 (vS hn x1 && vS n x2)) (fun r H1 => (r = gue L T o x1.toNatClampNeg x2.toNatClampNeg) ∧ ∃ ri1 ra1, rP G rb ri1 ra1 H1) := by
  refine x_headx (bytes := cX3_guess) (maxL := 3) (ret := (some .int)) (by decide) rfl (Nat.le_of_ble_eq_true rfl) ?_
  intro p e s m below meth c ls hx hb hml hown hts hr hlk hnm hK hs0 hl Q hQ hZ hxt
  have hl : lv_has ls 3 [(0, .ref xa), (1, .int x1), (2, .int x2)] := hl
  have hC : CallFix p m c cX3_guess 3 s [.ref xa, .int x1, .int x2].toArray wsX3_guess RX3 := ⟨hx, hb, hml, hown, hts⟩
  have k_cl70 := hts (.classLink RX3 70 eIX) (by decide +kernel)
  have k_inieIX := hts (.initialized eIX) (by decide +kernel)
  have at_eIX : ∀ w ∈ (vx_at0 RX3 72 eIX xN).filter goodWord, w ∈ wsX3_guess := by decide +kernel
  have k_f25 := hts (.fieldLink RX3 25 "SundogLine" "reckoning" "LSundogLine$Reckoning;") (by decide +kernel)
  have in_X3 : ∀ w ∈ u_ws RX3 TX3 5, w ∈ wsX3_guess := by decide +kernel
  have k_f19 := hts (.fieldLink RX3 19 "SundogLine" "halos" "Ljava/util/ArrayList;") (by decide +kernel)
  have k_cl102 := hts (.classLink RX3 102 RX0) (by decide +kernel)
  have k_f16 := hts (.fieldLink RX3 16 "SundogLine" "byPlace" "Ljava/util/ArrayList;") (by decide +kernel)
  have k_f12 := hts (.fieldLink RX3 12 "SundogLine" "stations" "Ljava/util/ArrayList;") (by decide +kernel)
  have k_cl51 := hts (.classLink RX3 51 "SundogLine$Station") (by decide +kernel)
  have k_f108 := hts (.fieldLink RX3 108 "SundogLine$Station" "place" "I") (by decide +kernel)
  have in_X2 : ∀ w ∈ u_ws RX2 TX2 8, w ∈ wsX3_guess := by decide +kernel
  have hN := hZ.nn
  have hS : va_S A H0 H0 [] := va_S.rf
  have hn12 := hg.n
  have hh16 := hg.hn
  refine lv_aload_n hx hb dX3_guess_0 rfl (lv_at hl 0 rfl) ?_
  refine lv_iload_n hx hb dX3_guess_1 rfl (lv_at hl 1 rfl) ?_
  refine x_rd (va_runV (As := [.int x1]) (rest := []) hC (c_X3_noHalo ((va_at.kept hxo (hS.2.1 _ hxo.lt hxA))) ((hcr.at hS hro)) hg) (cwV 1 hts gX3_guess_X3_noHalo rfl rfl rfl qdX3_noHalo ⟨Nat.le_of_ble_eq_true rfl, Nat.le_of_ble_eq_true rfl⟩) (x_preV hK (x_recv hK ((va_at.kept hxo (hS.2.1 _ hxo.lt hxA))) rfl)) rfl rfl hl.1 rfl (lv_room (Nat.le_of_ble_eq_true rfl)) dX3_guess_2 ⟨Nat.le_of_ble_eq_true rfl, Nat.le_of_ble_eq_true rfl⟩) ?_
  refine x_if_neB (tgt := 16) hx hb dX3_guess_5 (by decide) (fun c_1 => ?_) (fun c_1 => ?_)
  · have hkk9 : k1 (vS hn x1 && vS n x2) = 1 := by simp only [k1, k2, k3, Bool.and_true, Bool.true_and, Bool.and_false, Bool.false_and, Bool.not_true, Bool.not_false, bnt c_1] <;> rfl
    exact x_throw (cls := eIX) hQ hx hb hst hs0 hZ hS rfl hown (Or.inl rfl) (by decide) k_cl70 k_inieIX (fun w hw => hts w (at_eIX w hw)) xb_eIX xg_eIX (hl.1.trans hml.symm) dX3_guess_16 dX3_guess_19 dX3_guess_20 dX3_guess_23 hxt (Nat.le_of_ble_eq_true rfl) (Nat.le_of_ble_eq_true rfl) (Nat.le_of_ble_eq_true rfl) (Nat.le_of_ble_eq_true rfl) hlk hS.2.2 (by decide) (by decide) (by rw [hkk9]; exact ⟨by decide, rfl⟩)
  · refine lv_aload_n hx hb dX3_guess_8 rfl (lv_at hl 0 rfl) ?_
    refine lv_iload_n hx hb dX3_guess_9 rfl (lv_at hl 2 rfl) ?_
    refine x_rd (va_runV (As := [.int x2]) (rest := []) hC (c_X3_noStation ((va_at.kept hxo (hS.2.1 _ hxo.lt hxA))) ((hcr.at hS hro)) hg) (cwV 1 hts gX3_guess_X3_noStation rfl rfl rfl qdX3_noStation ⟨Nat.le_of_ble_eq_true rfl, Nat.le_of_ble_eq_true rfl⟩) (x_preV hK (x_recv hK ((va_at.kept hxo (hS.2.1 _ hxo.lt hxA))) rfl)) rfl rfl hl.1 rfl (lv_room (Nat.le_of_ble_eq_true rfl)) dX3_guess_10 ⟨Nat.le_of_ble_eq_true rfl, Nat.le_of_ble_eq_true rfl⟩) ?_
    refine x_if_eqB (tgt := 24) hx hb dX3_guess_13 (by decide) (fun c_2 => ?_) (fun c_2 => ?_)
    · obtain ⟨j, hj, rfl⟩ := inR_nat (show hn < 2 ^ 30 by omega) (bnf c_1)
      obtain ⟨i, hi, rfl⟩ := inR_nat (show n < 2 ^ 30 by omega) (bnf c_2)
      refine lv_aload_n hx hb dX3_guess_24 rfl (lv_at hl 0 rfl) ?_
      refine x_get (T := TX3) (N := 5) (v := .ref (rb 0)) hx hb hts in_X3 hown hK ((va_at.kept hxo (hS.2.1 _ hxo.lt hxA))) rfl 3 (by decide) k_f25 (fun _ h9 => h9) (rfl) dX3_guess_25 ?_
      refine lv_aload_n hx hb dX3_guess_28 rfl (lv_at hl 0 rfl) ?_
      refine x_get (T := TX3) (N := 5) (v := .ref aH) hx hb hts in_X3 hown hK ((va_at.kept hxo (hS.2.1 _ hxo.lt hxA))) rfl 2 (by decide) k_f19 (fun _ h9 => h9) (rfl) dX3_guess_29 ?_
      refine lv_iload_n hx hb dX3_guess_32 rfl (lv_at hl 1 rfl) ?_
      refine x_rd (va_runV (As := [.int (nI j)]) (rest := [.ref (rb 0)]) hC (c_get ((hcr.at hS hro).lH) (by omega)) (cwV 1 hts gX3_guess_Jx4a65c_get_915e3 rfl rfl rfl qdJx4a65c_get_915e3 ⟨Nat.le_of_ble_eq_true rfl, Nat.le_of_ble_eq_true rfl⟩) (x_preV hK (alR_recv hK ((hcr.at hS hro).lH))) rfl rfl hl.1 rfl (lv_room (Nat.le_of_ble_eq_true rfl)) dX3_guess_33 ⟨Nat.le_of_ble_eq_true rfl, Nat.le_of_ble_eq_true rfl⟩) ?_
      refine x_cast hx hb hown k_cl102 hK ((hcr.at hS hro).hal (show j < hn by omega)) rfl dX3_guess_36 ?_
      refine lv_aload_n hx hb dX3_guess_39 rfl (lv_at hl 0 rfl) ?_
      refine x_get (T := TX3) (N := 5) (v := .ref aB) hx hb hts in_X3 hown hK ((va_at.kept hxo (hS.2.1 _ hxo.lt hxA))) rfl 1 (by decide) k_f16 (fun _ h9 => h9) (rfl) dX3_guess_40 ?_
      refine x_runv (va_runV (As := [.ref (ha j), .ref aB]) (rest := []) hC (c_X1_reckon (A := A) hP hD (hcr.at hS hro) hro hg ho (show j < hn by omega)) (cwV 2 hts gX3_guess_X1_reckon rfl rfl rfl qdX1_reckon ⟨Nat.le_of_ble_eq_true rfl, Nat.le_of_ble_eq_true rfl⟩) (x_preVn hK hN (x_recv hK (hP 0 _ rfl) rfl)) rfl rfl hl.1 rfl (lv_room (Nat.le_of_ble_eq_true rfl)) dX3_guess_43 ⟨Nat.le_of_ble_eq_true rfl, Nat.le_of_ble_eq_true rfl⟩) hS (fun _ h => h) (fun H locs hfr hΦ hS => ?_)
      obtain ⟨rj3, sj3, hk3, hP⟩ := hΦ
      have hP : rP G rb rj3 sj3 H := hP
      have hD : va_D A (rW G rb rj3 sj3) := hD.same rfl
      have hM12 : (sqL L T o j).length ≤ 12 := Nat.le_trans (sqM_le ho) hn12
      refine lv_aload_n hx hb dX3_guess_46 rfl (lv_at hl 0 rfl) ?_
      refine x_get (T := TX3) (N := 5) (v := .ref (rb 0)) hx hb hts in_X3 hown hK ((va_at.kept hxo (hS.2.1 _ hxo.lt hxA))) rfl 3 (by decide) k_f25 (fun _ h9 => h9) (rfl) dX3_guess_47 ?_
      refine lv_aload_n hx hb dX3_guess_50 rfl (lv_at hl 0 rfl) ?_
      refine x_get (T := TX3) (N := 5) (v := .ref aS) hx hb hts in_X3 hown hK ((va_at.kept hxo (hS.2.1 _ hxo.lt hxA))) rfl 0 (by decide) k_f12 (fun _ h9 => h9) (rfl) dX3_guess_51 ?_
      refine lv_iload_n hx hb dX3_guess_54 rfl (lv_at hl 2 rfl) ?_
      refine x_rd (va_runV (As := [.int (nI i)]) (rest := [.ref (rb 0)]) hC (c_get ((hcr.at hS hro).lS) (by omega)) (cwV 1 hts gX3_guess_Jx4a65c_get_915e3 rfl rfl rfl qdJx4a65c_get_915e3 ⟨Nat.le_of_ble_eq_true rfl, Nat.le_of_ble_eq_true rfl⟩) (x_preV hK (alR_recv hK ((hcr.at hS hro).lS))) rfl rfl hl.1 rfl (lv_room (Nat.le_of_ble_eq_true rfl)) dX3_guess_55 ⟨Nat.le_of_ble_eq_true rfl, Nat.le_of_ble_eq_true rfl⟩) ?_
      refine x_cast hx hb hown k_cl51 hK (((hcr.at hS hro).st (show i < n by omega)).1) rfl dX3_guess_58 ?_
      refine x_get (T := TX2) (N := 8) (v := .int (gL L i 0)) hx hb hts in_X2 hown hK (((hcr.at hS hro).st (show i < n by omega)).1) rfl 1 (by decide) k_f108 (fun _ h9 => h9) (rfl) dX3_guess_61 ?_
      refine x_rd (va_runV (As := [.int (gL L i 0)]) (rest := []) hC (c_X1_guessAt hP hk3.1.1 hM12) (cwV 1 hts gX3_guess_X1_guessAt rfl rfl rfl qdX1_guessAt ⟨Nat.le_of_ble_eq_true rfl, Nat.le_of_ble_eq_true rfl⟩) (x_preV hK (x_recv hK (hP 0 _ rfl) rfl)) rfl rfl hl.1 rfl (lv_room (Nat.le_of_ble_eq_true rfl)) dX3_guess_64 ⟨Nat.le_of_ble_eq_true rfl, Nat.le_of_ble_eq_true rfl⟩) ?_
      have hkk9 : k1 (vS hn (nI j) && vS n (nI i)) = 0 := by simp only [k1, k2, k3, Bool.and_true, Bool.true_and, Bool.and_false, Bool.false_and, Bool.not_true, Bool.not_false, bnf c_1, bnf c_2] <;> rfl
      refine W.widen (k := 1) (n := 6) (Nat.zero_le _) (Nat.zero_le _) ?_
      refine x_vxret hQ ?_
      exact x_iret rfl hx hb hr rfl hlk hS.2.2 dX3_guess_67 ⟨hS.fr, hkk9, ⟨by rw [nI_clamp (show j < 2 ^ 31 by omega), nI_clamp (show i < 2 ^ 31 by omega), hk3.2.1.1, hk3.2.1.2.1]; rfl, _, _, hP⟩⟩
    · have hkk9 : k1 (vS hn x1 && vS n x2) = 1 := by simp only [k1, k2, k3, Bool.and_true, Bool.true_and, Bool.and_false, Bool.false_and, Bool.not_true, Bool.not_false, bnf c_1, bnt c_2] <;> rfl
      exact x_throw (cls := eIX) hQ hx hb hst hs0 hZ hS rfl hown (Or.inl rfl) (by decide) k_cl70 k_inieIX (fun w hw => hts w (at_eIX w hw)) xb_eIX xg_eIX (hl.1.trans hml.symm) dX3_guess_16 dX3_guess_19 dX3_guess_20 dX3_guess_23 hxt (Nat.le_of_ble_eq_true rfl) (Nat.le_of_ble_eq_true rfl) (Nat.le_of_ble_eq_true rfl) (Nat.le_of_ble_eq_true rfl) hlk hS.2.2 (by decide) (by decide) (by rw [hkk9]; exact ⟨by decide, rfl⟩)
