theorem P_three {D : va_G} {cl : List vw_C} {x y z : Nat × va_E} {H : Heap} (h1 : va_at D cl x H) (h2 : va_at D cl y H) (h3 : va_at D cl z H) : va_P D cl [x, y, z] H := fun k q hk => by
  match k, hk with
  | 0, hk => cases hk; exact h1
  | 1, hk => cases hk; exact h2
  | 2, hk => cases hk; exact h3
abbrev rmX3_cloud : Room := { frames := 6, cells := 1, slots := 6, locals := 90 }
theorem qdX3_cloud : yX3_cloud.cls = RX3 ∧ yX3_cloud.cls ≠ "java/lang/invoke/MethodHandle" ∧ yX3_cloud.cls ≠ "java/lang/invoke/VarHandle" ∧ (parseMethodDescriptor yX3_cloud.desc).map (fun d => d.parameters.length) = some 3 := by decide +kernel
set_option maxHeartbeats 4000000 in
set_option maxRecDepth 100000 in
theorem c_X3_cloud {l : Launch} {G : gT} {A : Nat → Prop} {H0 : Heap} {zA : Nat × Nat} {ro : Nat → Prop} {n hn : Nat} {L T : Nat → Int32} {o : List Nat} {sa fa ta ha : Nat → Nat} {F U : Nat → Nat → Int32} {aS aB aH xa rb0 ms9 : Nat} {x1 x2 x3 : Int32} (hxo : pt G xa (.inr (3, [.ref aS, .ref aB, .ref aH, .ref rb0, .ref ms9])) H0) (hcr : crO G ro n hn L T o sa fa ta ha F U aS aB aH H0) (hg : OK n hn L T) (ho : IsOrd (fun s => gL L s 0) n o) (hDi : ∀ i, i < n → x1 = nI i → va_D A [(sa i, stO L i (fa i) (ta i)), (fa i, eI G 4 (F i)), (ta i, eI G 4 (U i))]) (hst : l.stackTraces = false) : VzI G zA l yX3_cloud wsX3_cloud rmX3_cloud [.ref xa, .int x1, .int x2, .int x3] H0 A 1 6 [eIX, eIA, eIS] (k3 (vS n x1) (!decide (x2 < 0) && decide (x2 < x3)) (decide (¬ nc L x1.toNatClampNeg = 4))) (fun r H1 => r = nI (nc L (x1.toNatClampNeg) + 1) ∧ va_P (gD G) vC [(sa (x1.toNatClampNeg), .inr (2, [.int (nI (x1.toNatClampNeg)), .int (gL L (x1.toNatClampNeg) 0), .int (gL L (x1.toNatClampNeg) 1), .int (gL L (x1.toNatClampNeg) 2), .int (gL L (x1.toNatClampNeg) 3), .int (nI (nc L (x1.toNatClampNeg) + 1)), .ref (fa (x1.toNatClampNeg)), .ref (ta (x1.toNatClampNeg))])), (fa (x1.toNatClampNeg), eI G 4 (upd (F (x1.toNatClampNeg)) (nc L (x1.toNatClampNeg)) x2)), (ta (x1.toNatClampNeg), eI G 4 (upd (U (x1.toNatClampNeg)) (nc L (x1.toNatClampNeg)) x3))] H1) := by
  refine x_headx (bytes := cX3_cloud) (maxL := 5) (ret := (some .int)) (by decide) rfl (Nat.le_of_ble_eq_true rfl) ?_
  intro p e s m below meth c ls hx hb hml hown hts hr hlk hnm hK hs0 hl Q hQ hZ hxt
  have hl : lv_has ls 5 [(0, .ref xa), (1, .int x1), (2, .int x2), (3, .int x3)] := hl
  have hC : CallFix p m c cX3_cloud 5 s [.ref xa, .int x1, .int x2, .int x3].toArray wsX3_cloud RX3 := ⟨hx, hb, hml, hown, hts⟩
  have k_cl37 := hts (.classLink RX3 37 eIA) (by decide +kernel)
  have k_inieIA := hts (.initialized eIA) (by decide +kernel)
  have at_eIA : ∀ w ∈ (vx_at0 RX3 39 eIA xN).filter goodWord, w ∈ wsX3_cloud := by decide +kernel
  have k_f12 := hts (.fieldLink RX3 12 "SundogLine" "stations" "Ljava/util/ArrayList;") (by decide +kernel)
  have in_X3 : ∀ w ∈ u_ws RX3 TX3 5, w ∈ wsX3_cloud := by decide +kernel
  have k_cl51 := hts (.classLink RX3 51 "SundogLine$Station") (by decide +kernel)
  have k_f85 := hts (.fieldLink RX3 85 "SundogLine$Station" "clouds" "I") (by decide +kernel)
  have in_X2 : ∀ w ∈ u_ws RX2 TX2 8, w ∈ wsX3_cloud := by decide +kernel
  have k_cl48 := hts (.classLink RX3 48 eIS) (by decide +kernel)
  have k_inieIS := hts (.initialized eIS) (by decide +kernel)
  have at_eIS : ∀ w ∈ (vx_at0 RX3 50 eIS xN).filter goodWord, w ∈ wsX3_cloud := by decide +kernel
  have k_cl70 := hts (.classLink RX3 70 eIX) (by decide +kernel)
  have k_inieIX := hts (.initialized eIX) (by decide +kernel)
  have at_eIX : ∀ w ∈ (vx_at0 RX3 72 eIX xN).filter goodWord, w ∈ wsX3_cloud := by decide +kernel
  have hN := hZ.nn
  have hS : va_S A H0 H0 [] := va_S.rf
  have hn12 := hg.n
  have hh16 := hg.hn
  refine lv_aload_n hx hb dX3_cloud_0 rfl (lv_at hl 0 rfl) ?_
  refine lv_iload_n hx hb dX3_cloud_1 rfl (lv_at hl 1 rfl) ?_
  refine x_rd (va_runV (As := [.int x1]) (rest := []) hC (c_X3_noStation (hxo) (hcr) hg) (cwV 1 hts gX3_cloud_X3_noStation rfl rfl rfl qdX3_noStation ⟨Nat.le_of_ble_eq_true rfl, Nat.le_of_ble_eq_true rfl⟩) (x_preV hK (x_recv hK (hxo) rfl)) rfl rfl hl.1 rfl (lv_room (Nat.le_of_ble_eq_true rfl)) dX3_cloud_2 ⟨Nat.le_of_ble_eq_true rfl, Nat.le_of_ble_eq_true rfl⟩) ?_
  refine x_if_eqB (tgt := 16) hx hb dX3_cloud_5 (by decide) (fun c_1 => ?_) (fun c_1 => ?_)
  · refine lv_iload_n hx hb dX3_cloud_16 rfl (lv_at hl 2 rfl) ?_
    refine lv_if_lt (tgt := 25) hx hb dX3_cloud_17 (by decide) (fun c_2 => ?_) (fun c_2 => ?_)
    · have hkk9 : k3 (vS n x1) (!decide (x2 < 0) && decide (x2 < x3)) (decide (¬ nc L x1.toNatClampNeg = 4)) = 2 := by simp only [k1, k2, k3, Bool.and_true, Bool.true_and, Bool.and_false, Bool.false_and, Bool.not_true, Bool.not_false, bnf c_1, decide_eq_true c_2] <;> rfl
      exact x_throw (cls := eIA) hQ hx hb hst hs0 hZ hS rfl hown (Or.inr (Or.inl rfl)) (by decide) k_cl37 k_inieIA (fun w hw => hts w (at_eIA w hw)) xb_eIA xg_eIA (hl.1.trans hml.symm) dX3_cloud_25 dX3_cloud_28 dX3_cloud_29 dX3_cloud_32 hxt (Nat.le_of_ble_eq_true rfl) (Nat.le_of_ble_eq_true rfl) (Nat.le_of_ble_eq_true rfl) (Nat.le_of_ble_eq_true rfl) hlk hS.2.2 (by decide) (by decide) (by rw [hkk9]; exact ⟨by decide, rfl⟩)
    · refine lv_iload_n hx hb dX3_cloud_20 rfl (lv_at hl 3 rfl) ?_
      refine lv_iload_n hx hb dX3_cloud_21 rfl (lv_at hl 2 rfl) ?_
      refine lv_icmp_gt (tgt := 33) hx hb dX3_cloud_22 (by decide) (fun c_3 => ?_) (fun c_3 => ?_)
      · obtain ⟨i, hi, rfl⟩ := inR_nat (show n < 2 ^ 30 by omega) (bnf c_1)
        have hc := hg.c hi
        have hc4 := hg.c4 hi
        refine lv_aload_n hx hb dX3_cloud_33 rfl (lv_at hl 0 rfl) ?_
        refine x_get (T := TX3) (N := 5) (v := .ref aS) hx hb hts in_X3 hown hK (hxo) rfl 0 (by decide) k_f12 (fun _ h9 => h9) (rfl) dX3_cloud_34 ?_
        refine lv_iload_n hx hb dX3_cloud_37 rfl (lv_at hl 1 rfl) ?_
        refine x_rd (va_runV (As := [.int (nI i)]) (rest := []) hC (c_get (hcr.lS) (by omega)) (cwV 1 hts gX3_cloud_Jx4a65c_get_915e3 rfl rfl rfl qdJx4a65c_get_915e3 ⟨Nat.le_of_ble_eq_true rfl, Nat.le_of_ble_eq_true rfl⟩) (x_preV hK (alR_recv hK (hcr.lS))) rfl rfl hl.1 rfl (lv_room (Nat.le_of_ble_eq_true rfl)) dX3_cloud_38 ⟨Nat.le_of_ble_eq_true rfl, Nat.le_of_ble_eq_true rfl⟩) ?_
        have hst4 := hcr.st (show i < n by omega)
        have hP : va_P (gD G) vC [(sa i, .inr (2, [.int (nI i), .int (gL L i 0), .int (gL L i 1), .int (gL L i 2), .int (gL L i 3), .int (nI (nc L i)), .ref (fa i), .ref (ta i)])), (fa i, eI G 4 (F i)), (ta i, eI G 4 (U i))] H0 := P_three (by rw [← hc]; exact hst4.1) hst4.2.1 hst4.2.2.1
        have hD : va_D A [(sa i, .inr (2, [.int (nI i), .int (gL L i 0), .int (gL L i 1), .int (gL L i 2), .int (gL L i 3), .int (nI (nc L i)), .ref (fa i), .ref (ta i)])), (fa i, eI G 4 (F i)), (ta i, eI G 4 (U i))] := (hDi i hi rfl).same rfl
        refine x_cast hx hb hown k_cl51 hK (hP 0 _ rfl) rfl dX3_cloud_41 ?_
        refine lv_astore (lv' := [(4, .ref (sa i)), (0, .ref xa), (1, .int (nI i)), (2, .int x2), (3, .int x3)]) hx hb dX3_cloud_44 hl (by decide) rfl (fun ls hl => ?_)
        refine lv_aload hx hb dX3_cloud_46 (lv_at hl 0 rfl) ?_
        refine x_rd (va_runV (As := []) (rest := []) hC (c_X2_isFullOfClouds (hcr.st (show i < n by omega)) (hg.2.1 _ (show i < n by omega))) (cwV 0 hts gX3_cloud_X2_isFullOfClouds rfl rfl rfl qdX2_isFullOfClouds ⟨Nat.le_of_ble_eq_true rfl, Nat.le_of_ble_eq_true rfl⟩) (x_preV hK (x_recv hK (hP 0 _ rfl) rfl)) rfl rfl hl.1 rfl (lv_room (Nat.le_of_ble_eq_true rfl)) dX3_cloud_48 ⟨Nat.le_of_ble_eq_true rfl, Nat.le_of_ble_eq_true rfl⟩) ?_
        refine x_if_eqB (tgt := 62) hx hb dX3_cloud_51 (by decide) (fun c_4 => ?_) (fun c_4 => ?_)
        · have hn4 := of_decide_eq_false c_4
          refine lv_aload hx hb dX3_cloud_62 (lv_at hl 0 rfl) ?_
          refine lv_iload_n hx hb dX3_cloud_64 rfl (lv_at hl 3 rfl) ?_
          refine lv_iload_n hx hb dX3_cloud_65 rfl (lv_at hl 4 rfl) ?_
          refine x_runv (va_runV (As := [.int x2, .int x3]) (rest := []) hC (c_X2_cover hP hD (by omega)) (cwV 2 hts gX3_cloud_X2_cover rfl rfl rfl qdX2_cover ⟨Nat.le_of_ble_eq_true rfl, Nat.le_of_ble_eq_true rfl⟩) (x_preV hK (x_recv hK (hP 0 _ rfl) rfl)) rfl rfl hl.1 rfl (lv_room (Nat.le_of_ble_eq_true rfl)) dX3_cloud_66 ⟨Nat.le_of_ble_eq_true rfl, Nat.le_of_ble_eq_true rfl⟩) hS (fun _ h => h) (fun H locs hfr hP hS => ?_)
          have hD : va_D A [((sa i), .inr (2, [.int (nI i), .int (gL L i 0), .int (gL L i 1), .int (gL L i 2), .int (gL L i 3), .int (nI (nc L i + 1)), .ref (fa i), .ref (ta i)])), ((fa i), eI G 4 (upd (F i) (nc L i) x2)), ((ta i), eI G 4 (upd (U i) (nc L i) x3))] := hD.same rfl
          refine lv_aload hx hb dX3_cloud_69 (lv_at hl 0 rfl) ?_
          refine x_get (T := TX2) (N := 8) (v := .int (nI (nc L i + 1))) hx hb hts in_X2 hown hK (hP 0 _ rfl) rfl 5 (by decide) k_f85 (fun _ h9 => h9) (rfl) dX3_cloud_71 ?_
          have hkk9 : k3 (vS n (nI i)) (!decide (x2 < 0) && decide (x2 < x3)) (decide (¬ nc L (nI i).toNatClampNeg = 4)) = 0 := by simp only [k1, k2, k3, Bool.and_true, Bool.true_and, Bool.and_false, Bool.false_and, Bool.not_true, Bool.not_false, bnf c_1, decide_eq_false c_2, decide_eq_true c_3, nI_clamp (show i < 2 ^ 31 by omega), decide_eq_true (of_decide_eq_false c_4)] <;> rfl
          refine W.widen (k := 1) (n := 6) (Nat.zero_le _) (Nat.zero_le _) ?_
          refine x_vxret hQ ?_
          exact x_iret rfl hx hb hr rfl hlk hS.2.2 dX3_cloud_74 ⟨hS.fr, hkk9, by rw [nI_clamp (show i < 2 ^ 31 by omega)]; exact ⟨rfl, hP⟩⟩
        · have hkk9 : k3 (vS n (nI i)) (!decide (x2 < 0) && decide (x2 < x3)) (decide (¬ nc L (nI i).toNatClampNeg = 4)) = 3 := by simp only [k1, k2, k3, Bool.and_true, Bool.true_and, Bool.and_false, Bool.false_and, Bool.not_true, Bool.not_false, bnf c_1, decide_eq_false c_2, decide_eq_true c_3, nI_clamp (show i < 2 ^ 31 by omega), decide_eq_false (not_not_intro (of_decide_eq_true c_4))] <;> rfl
          exact x_throw (cls := eIS) hQ hx hb hst hs0 hZ hS rfl hown (Or.inr (Or.inr rfl)) (by decide) k_cl48 k_inieIS (fun w hw => hts w (at_eIS w hw)) xb_eIS xg_eIS (hl.1.trans hml.symm) dX3_cloud_54 dX3_cloud_57 dX3_cloud_58 dX3_cloud_61 hxt (Nat.le_of_ble_eq_true rfl) (Nat.le_of_ble_eq_true rfl) (Nat.le_of_ble_eq_true rfl) (Nat.le_of_ble_eq_true rfl) hlk hS.2.2 (by decide) (by decide) (by rw [hkk9]; exact ⟨by decide, rfl⟩)
      · have hkk9 : k3 (vS n x1) (!decide (x2 < 0) && decide (x2 < x3)) (decide (¬ nc L x1.toNatClampNeg = 4)) = 2 := by simp only [k1, k2, k3, Bool.and_true, Bool.true_and, Bool.and_false, Bool.false_and, Bool.not_true, Bool.not_false, bnf c_1, decide_eq_false c_2, decide_eq_false c_3] <;> rfl
        exact x_throw (cls := eIA) hQ hx hb hst hs0 hZ hS rfl hown (Or.inr (Or.inl rfl)) (by decide) k_cl37 k_inieIA (fun w hw => hts w (at_eIA w hw)) xb_eIA xg_eIA (hl.1.trans hml.symm) dX3_cloud_25 dX3_cloud_28 dX3_cloud_29 dX3_cloud_32 hxt (Nat.le_of_ble_eq_true rfl) (Nat.le_of_ble_eq_true rfl) (Nat.le_of_ble_eq_true rfl) (Nat.le_of_ble_eq_true rfl) hlk hS.2.2 (by decide) (by decide) (by rw [hkk9]; exact ⟨by decide, rfl⟩)
  · have hkk9 : k3 (vS n x1) (!decide (x2 < 0) && decide (x2 < x3)) (decide (¬ nc L x1.toNatClampNeg = 4)) = 1 := by simp only [k1, k2, k3, Bool.and_true, Bool.true_and, Bool.and_false, Bool.false_and, Bool.not_true, Bool.not_false, bnt c_1] <;> rfl
    exact x_throw (cls := eIX) hQ hx hb hst hs0 hZ hS rfl hown (Or.inl rfl) (by decide) k_cl70 k_inieIX (fun w hw => hts w (at_eIX w hw)) xb_eIX xg_eIX (hl.1.trans hml.symm) dX3_cloud_8 dX3_cloud_11 dX3_cloud_12 dX3_cloud_15 hxt (Nat.le_of_ble_eq_true rfl) (Nat.le_of_ble_eq_true rfl) (Nat.le_of_ble_eq_true rfl) (Nat.le_of_ble_eq_true rfl) hlk hS.2.2 (by decide) (by decide) (by rw [hkk9]; exact ⟨by decide, rfl⟩)
