/-- one more halo -/
def Lad (T : Nat → Int32) (hn : Nat) (x y z w : Int32) : Nat → Int32 := va_cpy (upd (upd (upd (upd (fun _ => 0) 0 x) 1 y) 2 z) 3 w) T 0 (4 * hn) 4
abbrev rmX4_addHalo : Room := { frames := 1, cells := 1, slots := 4, locals := 30 }
theorem qdX4_addHalo : yX4_addHalo.cls = RX4 ∧ yX4_addHalo.cls ≠ "java/lang/invoke/MethodHandle" ∧ yX4_addHalo.cls ≠ "java/lang/invoke/VarHandle" ∧ (parseMethodDescriptor yX4_addHalo.desc).map (fun d => d.parameters.length) = some 4 := by decide +kernel
set_option maxHeartbeats 4000000 in
set_option maxRecDepth 100000 in
theorem c_X4_addHalo {l : Launch} {G : gT} {A : Nat → Prop} {b : Nat → Nat} {mi : Nat → Int32} {ma : Nat → Nat → Int32} {H0 : Heap} {n hn : Nat} {x1 x2 x3 x4 : Int32} (hP : mP G b mi ma H0) (hD : va_D A (mW G b mi ma)) (hmn : mi 1 = nI n) (hmh : mi 2 = nI hn) (hg : OK n hn (ma 0) (ma 1)) (hA : ∀ q, H0.size ≤ q → A q) : WrIm G l yX4_addHalo wsX4_addHalo rmX4_addHalo [.ref (b 0), .int x1, .int x2, .int x3, .int x4] H0 A 1 4 (fun r H1 => mQ G b n (if k2 (inR (nI 0) (nI 100000) x1 && inR (nI 0) (nI 999) x2 && inR (nI 1) (nI 99) x3 && inR (-1) (nI 1) x4) (decide (¬ hn = 16)) = 0 then hn + 1 else hn) (ma 0) (if k2 (inR (nI 0) (nI 100000) x1 && inR (nI 0) (nI 999) x2 && inR (nI 1) (nI 99) x3 && inR (-1) (nI 1) x4) (decide (¬ hn = 16)) = 0 then Lad (ma 1) hn x1 x2 x3 x4 else (ma 1)) (k2 (inR (nI 0) (nI 100000) x1 && inR (nI 0) (nI 999) x2 && inR (nI 1) (nI 99) x3 && inR (-1) (nI 1) x4) (decide (¬ hn = 16))) (nI hn) r H1) := by
  refine x_head (bytes := cX4_addHalo) (maxL := 6) (ret := (some .int)) (by decide) rfl (Nat.le_of_ble_eq_true rfl) ?_
  intro p e s m below meth c ls hx hb hml hown hts hr hlk hnm hK hs0 hl Q hQ
  have hl : lv_has ls 6 [(0, .ref (b 0)), (1, .int x1), (2, .int x2), (3, .int x3), (4, .int x4)] := hl
  have hC : CallFix p m c cX4_addHalo 6 s [.ref (b 0), .int x1, .int x2, .int x3, .int x4].toArray wsX4_addHalo RX4 := ⟨hx, hb, hml, hown, hts⟩
  have k_f25 := hts (.fieldLink RX4 25 "SundogLineModel" "thrown" "I") (by decide +kernel)
  have in_X4 : ∀ w ∈ u_ws RX4 TX4 11, w ∈ wsX4_addHalo := by decide +kernel
  have k_c57 := hts (.constant RX4 57 (100000)) (by decide +kernel)
  have k_f37 := hts (.fieldLink RX4 37 "SundogLineModel" "halos" "I") (by decide +kernel)
  have k_arr := hts (.arrayClass .int) (by decide +kernel)
  have k_f13 := hts (.fieldLink RX4 13 "SundogLineModel" "table" "[I") (by decide +kernel)
  have k_m74 := hts (.methodLink RX4 74 arraycopyName) (by decide +kernel)
  have k_acn := hts (.native arraycopyName) (by decide +kernel)
  have k_acs := hts (.static arraycopyName) (by decide +kernel)
  have k_aci := hts (.initialized "java/lang/System") (by decide +kernel)
  have hS : va_S A H0 H0 [] := va_S.rf
  have hn12 := hg.n
  have hh16 := hg.hn
  refine lv_aload_n hx hb dX4_addHalo_0 rfl (lv_at hl 0 rfl) ?_
  refine lv_iconst (v := nI 0) hx hb dX4_addHalo_1 (by decide +kernel) ?_
  refine va_put (D := gD G) (ci := 4) (v := .int (nI 0)) (ty := .int) (C := RX4) (T := TX4) (N := 11) hx hb hts in_X4 tyX4 tyX4_ok nmX4 hown hK hP hD hS 0 rfl rfl 0 (by decide) k_f25 (fun _ h9 => h9) rfl (by decide +kernel) rfl rfl (Nat.le_of_ble_eq_true rfl) dX4_addHalo_2 (fun H locs hP hD hS => ?_)
  have hP : mP G b (va_up mi 0 (nI 0)) ma H := hP
  have hD : va_D A (mW G b (va_up mi 0 (nI 0)) ma) := hD
  refine lv_iload_n hx hb dX4_addHalo_5 rfl (lv_at hl 1 rfl) ?_
  refine lv_iconst (v := nI 0) hx hb dX4_addHalo_6 (by decide +kernel) ?_
  refine lv_ldc (v := nI 100000) hx hb hown k_c57 dX4_addHalo_7 ?_
  refine x_rd (va_runS (As := [.int x1, .int (nI 0), .int (nI 100000)]) (rest := []) hC (c_X4_isIn) (cwS 3 hts gX4_addHalo_X4_isIn rfl rfl rfl qdX4_isIn ⟨Nat.le_of_ble_eq_true rfl, Nat.le_of_ble_eq_true rfl⟩) (x_preS hK) rfl rfl hl.1 rfl (lv_room (Nat.le_of_ble_eq_true rfl)) dX4_addHalo_9 ⟨Nat.le_of_ble_eq_true rfl, Nat.le_of_ble_eq_true rfl⟩) ?_
  refine W.eq (g2 := F0 m 12 ls [.int (bI (inR (nI 0) (nI 100000) x1))]) rfl ?_
  refine x_if_eqB (tgt := 46) hx hb dX4_addHalo_12 (by decide) (fun c_1 => ?_) (fun c_1 => ?_)
  · refine lv_aload_n hx hb dX4_addHalo_46 rfl (lv_at hl 0 rfl) ?_
    refine lv_iconst (v := nI 1) hx hb dX4_addHalo_47 (by decide +kernel) ?_
    refine x_runi (va_runV (As := [.int (nI 1)]) (rest := []) hC (c_X4_fail hP hD) (cwV 1 hts gX4_addHalo_X4_fail rfl rfl rfl qdX4_fail ⟨Nat.le_of_ble_eq_true rfl, Nat.le_of_ble_eq_true rfl⟩) (x_preV hK (x_recv hK (hP 0 _ rfl) rfl)) rfl rfl hl.1 rfl (lv_room (Nat.le_of_ble_eq_true rfl)) dX4_addHalo_48 ⟨Nat.le_of_ble_eq_true rfl, Nat.le_of_ble_eq_true rfl⟩) hS (fun _ h => h) (fun r_2 H locs hfr hΦ hS => ?_)
    obtain ⟨er_2, hP⟩ := hΦ
    rw [er_2]
    have hP : mP G b (va_up mi 0 (nI 1)) ma H := hP
    have hD : va_D A (mW G b (va_up mi 0 (nI 1)) ma) := hD.same rfl
    have hkk9 : k2 (inR (nI 0) (nI 100000) x1 && inR (nI 0) (nI 999) x2 && inR (nI 1) (nI 99) x3 && inR (-1) (nI 1) x4) (decide (¬ hn = 16)) = 1 := by simp only [k2, Bool.and_true, Bool.true_and, Bool.and_false, Bool.false_and, c_1] <;> rfl
    have hkn9 : ¬ k2 (inR (nI 0) (nI 100000) x1 && inR (nI 0) (nI 999) x2 && inR (nI 1) (nI 99) x3 && inR (-1) (nI 1) x4) (decide (¬ hn = 16)) = 0 := by rw [hkk9]; decide
    refine W.widen (k := 1) (n := 4) (Nat.zero_le _) (Nat.zero_le _) ?_
    exact x_iret hQ hx hb hr rfl hlk hS.2.2 dX4_addHalo_51 ⟨hS.fr, mQ_mk (k0 := 1) hkk9 hP rfl (hmn) (by rw [if_neg hkn9]; exact hmh) (rfl) (by rw [if_neg hkn9] <;> rfl) (fun z => absurd z (by decide))⟩
  · refine lv_iload_n hx hb dX4_addHalo_15 rfl (lv_at hl 2 rfl) ?_
    refine lv_iconst (v := nI 0) hx hb dX4_addHalo_16 (by decide +kernel) ?_
    refine lv_sipush (v := nI 999) hx hb dX4_addHalo_17 (by decide +kernel) ?_
    refine x_rd (va_runS (As := [.int x2, .int (nI 0), .int (nI 999)]) (rest := []) hC (c_X4_isIn) (cwS 3 hts gX4_addHalo_X4_isIn rfl rfl rfl qdX4_isIn ⟨Nat.le_of_ble_eq_true rfl, Nat.le_of_ble_eq_true rfl⟩) (x_preS hK) rfl rfl hl.1 rfl (lv_room (Nat.le_of_ble_eq_true rfl)) dX4_addHalo_20 ⟨Nat.le_of_ble_eq_true rfl, Nat.le_of_ble_eq_true rfl⟩) ?_
    refine W.eq (g2 := F0 m 23 ls [.int (bI (inR (nI 0) (nI 999) x2))]) rfl ?_
    refine x_if_eqB (tgt := 46) hx hb dX4_addHalo_23 (by decide) (fun c_3 => ?_) (fun c_3 => ?_)
    · refine lv_aload_n hx hb dX4_addHalo_46 rfl (lv_at hl 0 rfl) ?_
      refine lv_iconst (v := nI 1) hx hb dX4_addHalo_47 (by decide +kernel) ?_
      refine x_runi (va_runV (As := [.int (nI 1)]) (rest := []) hC (c_X4_fail hP hD) (cwV 1 hts gX4_addHalo_X4_fail rfl rfl rfl qdX4_fail ⟨Nat.le_of_ble_eq_true rfl, Nat.le_of_ble_eq_true rfl⟩) (x_preV hK (x_recv hK (hP 0 _ rfl) rfl)) rfl rfl hl.1 rfl (lv_room (Nat.le_of_ble_eq_true rfl)) dX4_addHalo_48 ⟨Nat.le_of_ble_eq_true rfl, Nat.le_of_ble_eq_true rfl⟩) hS (fun _ h => h) (fun r_4 H locs hfr hΦ hS => ?_)
      obtain ⟨er_4, hP⟩ := hΦ
      rw [er_4]
      have hP : mP G b (va_up mi 0 (nI 1)) ma H := hP
      have hD : va_D A (mW G b (va_up mi 0 (nI 1)) ma) := hD.same rfl
      have hkk9 : k2 (inR (nI 0) (nI 100000) x1 && inR (nI 0) (nI 999) x2 && inR (nI 1) (nI 99) x3 && inR (-1) (nI 1) x4) (decide (¬ hn = 16)) = 1 := by simp only [k2, Bool.and_true, Bool.true_and, Bool.and_false, Bool.false_and, c_1, c_3] <;> rfl
      have hkn9 : ¬ k2 (inR (nI 0) (nI 100000) x1 && inR (nI 0) (nI 999) x2 && inR (nI 1) (nI 99) x3 && inR (-1) (nI 1) x4) (decide (¬ hn = 16)) = 0 := by rw [hkk9]; decide
      refine W.widen (k := 1) (n := 4) (Nat.zero_le _) (Nat.zero_le _) ?_
      exact x_iret hQ hx hb hr rfl hlk hS.2.2 dX4_addHalo_51 ⟨hS.fr, mQ_mk (k0 := 1) hkk9 hP rfl (hmn) (by rw [if_neg hkn9]; exact hmh) (rfl) (by rw [if_neg hkn9] <;> rfl) (fun z => absurd z (by decide))⟩
    · refine lv_iload_n hx hb dX4_addHalo_26 rfl (lv_at hl 3 rfl) ?_
      refine lv_iconst (v := nI 1) hx hb dX4_addHalo_27 (by decide +kernel) ?_
      refine lv_bipush (v := nI 99) hx hb dX4_addHalo_28 (by decide +kernel) ?_
      refine x_rd (va_runS (As := [.int x3, .int (nI 1), .int (nI 99)]) (rest := []) hC (c_X4_isIn) (cwS 3 hts gX4_addHalo_X4_isIn rfl rfl rfl qdX4_isIn ⟨Nat.le_of_ble_eq_true rfl, Nat.le_of_ble_eq_true rfl⟩) (x_preS hK) rfl rfl hl.1 rfl (lv_room (Nat.le_of_ble_eq_true rfl)) dX4_addHalo_30 ⟨Nat.le_of_ble_eq_true rfl, Nat.le_of_ble_eq_true rfl⟩) ?_
      refine W.eq (g2 := F0 m 33 ls [.int (bI (inR (nI 1) (nI 99) x3))]) rfl ?_
      refine x_if_eqB (tgt := 46) hx hb dX4_addHalo_33 (by decide) (fun c_5 => ?_) (fun c_5 => ?_)
      · refine lv_aload_n hx hb dX4_addHalo_46 rfl (lv_at hl 0 rfl) ?_
        refine lv_iconst (v := nI 1) hx hb dX4_addHalo_47 (by decide +kernel) ?_
        refine x_runi (va_runV (As := [.int (nI 1)]) (rest := []) hC (c_X4_fail hP hD) (cwV 1 hts gX4_addHalo_X4_fail rfl rfl rfl qdX4_fail ⟨Nat.le_of_ble_eq_true rfl, Nat.le_of_ble_eq_true rfl⟩) (x_preV hK (x_recv hK (hP 0 _ rfl) rfl)) rfl rfl hl.1 rfl (lv_room (Nat.le_of_ble_eq_true rfl)) dX4_addHalo_48 ⟨Nat.le_of_ble_eq_true rfl, Nat.le_of_ble_eq_true rfl⟩) hS (fun _ h => h) (fun r_6 H locs hfr hΦ hS => ?_)
        obtain ⟨er_6, hP⟩ := hΦ
        rw [er_6]
        have hP : mP G b (va_up mi 0 (nI 1)) ma H := hP
        have hD : va_D A (mW G b (va_up mi 0 (nI 1)) ma) := hD.same rfl
        have hkk9 : k2 (inR (nI 0) (nI 100000) x1 && inR (nI 0) (nI 999) x2 && inR (nI 1) (nI 99) x3 && inR (-1) (nI 1) x4) (decide (¬ hn = 16)) = 1 := by simp only [k2, Bool.and_true, Bool.true_and, Bool.and_false, Bool.false_and, c_1, c_3, c_5] <;> rfl
        have hkn9 : ¬ k2 (inR (nI 0) (nI 100000) x1 && inR (nI 0) (nI 999) x2 && inR (nI 1) (nI 99) x3 && inR (-1) (nI 1) x4) (decide (¬ hn = 16)) = 0 := by rw [hkk9]; decide
        refine W.widen (k := 1) (n := 4) (Nat.zero_le _) (Nat.zero_le _) ?_
        exact x_iret hQ hx hb hr rfl hlk hS.2.2 dX4_addHalo_51 ⟨hS.fr, mQ_mk (k0 := 1) hkk9 hP rfl (hmn) (by rw [if_neg hkn9]; exact hmh) (rfl) (by rw [if_neg hkn9] <;> rfl) (fun z => absurd z (by decide))⟩
      · refine lv_iload hx hb dX4_addHalo_36 (lv_at hl 4 rfl) ?_
        refine lv_iconst (v := (-1)) hx hb dX4_addHalo_38 (by decide +kernel) ?_
        refine lv_iconst (v := nI 1) hx hb dX4_addHalo_39 (by decide +kernel) ?_
        refine x_rd (va_runS (As := [.int x4, .int ((-1)), .int (nI 1)]) (rest := []) hC (c_X4_isIn) (cwS 3 hts gX4_addHalo_X4_isIn rfl rfl rfl qdX4_isIn ⟨Nat.le_of_ble_eq_true rfl, Nat.le_of_ble_eq_true rfl⟩) (x_preS hK) rfl rfl hl.1 rfl (lv_room (Nat.le_of_ble_eq_true rfl)) dX4_addHalo_40 ⟨Nat.le_of_ble_eq_true rfl, Nat.le_of_ble_eq_true rfl⟩) ?_
        refine W.eq (g2 := F0 m 43 ls [.int (bI (inR (-1) (nI 1) x4))]) rfl ?_
        refine x_if_neB (tgt := 52) hx hb dX4_addHalo_43 (by decide) (fun c_7 => ?_) (fun c_7 => ?_)
        · refine lv_aload_n hx hb dX4_addHalo_52 rfl (lv_at hl 0 rfl) ?_
          refine x_get (T := TX4) (N := 11) (v := .int (nI hn)) hx hb hts in_X4 hown hK (hP 0 _ rfl) rfl 3 (by decide) k_f37 (fun _ h9 => h9) (congrArg (fun z => some (Value.int z)) hmh) dX4_addHalo_53 ?_
          refine lv_bipush (v := nI 16) hx hb dX4_addHalo_56 (by decide +kernel) ?_
          refine x_icmp_ne (tgt := 67) hx hb (by omega) (by omega) dX4_addHalo_58 (by decide) (fun c_8 => ?_) (fun c_8 => ?_)
          · have hh15 : hn < 16 := by omega
            refine lv_iconst (v := nI 4) hx hb dX4_addHalo_67 (by decide +kernel) ?_
            refine x_newI (N := 4) hx hb k_arr hK hP hD hS hA (by decide) (by decide) (Nat.le_of_ble_eq_true rfl) (Nat.le_of_ble_eq_true rfl) dX4_addHalo_68 (fun q_9 H hP hD hS => ?_)
            have hP : va_P (gD G) vC (mW G b (va_up mi 0 (nI 0)) ma ++ [(q_9, eI G 4 (fun _ => 0))]) H := hP
            have hD : va_D A (mW G b (va_up mi 0 (nI 0)) ma ++ [(q_9, eI G 4 (fun _ => 0))]) := hD
            refine lv_dup hx hb dX4_addHalo_70 rfl ?_
            refine lv_iconst (v := nI 0) hx hb dX4_addHalo_71 (by decide +kernel) ?_
            refine lv_iload_n hx hb dX4_addHalo_72 rfl (lv_at hl 1 rfl) ?_
            refine x_iast hx hb hK hP hD hS 6 rfl (by omega) (by decide) dX4_addHalo_73 (fun H locs hP hD hS => ?_)
            have hP : va_P (gD G) vC (mW G b (va_up mi 0 (nI 0)) ma ++ [(q_9, eI G 4 (upd (fun _ => 0) 0 x1))]) H := hP
            have hD : va_D A (mW G b (va_up mi 0 (nI 0)) ma ++ [(q_9, eI G 4 (upd (fun _ => 0) 0 x1))]) := hD
            refine lv_dup hx hb dX4_addHalo_74 rfl ?_
            refine lv_iconst (v := nI 1) hx hb dX4_addHalo_75 (by decide +kernel) ?_
            refine lv_iload_n hx hb dX4_addHalo_76 rfl (lv_at hl 2 rfl) ?_
            refine x_iast hx hb hK hP hD hS 6 rfl (by omega) (by decide) dX4_addHalo_77 (fun H locs hP hD hS => ?_)
            have hP : va_P (gD G) vC (mW G b (va_up mi 0 (nI 0)) ma ++ [(q_9, eI G 4 (upd (upd (fun _ => 0) 0 x1) 1 x2))]) H := hP
            have hD : va_D A (mW G b (va_up mi 0 (nI 0)) ma ++ [(q_9, eI G 4 (upd (upd (fun _ => 0) 0 x1) 1 x2))]) := hD
            refine lv_dup hx hb dX4_addHalo_78 rfl ?_
            refine lv_iconst (v := nI 2) hx hb dX4_addHalo_79 (by decide +kernel) ?_
            refine lv_iload_n hx hb dX4_addHalo_80 rfl (lv_at hl 3 rfl) ?_
            refine x_iast hx hb hK hP hD hS 6 rfl (by omega) (by decide) dX4_addHalo_81 (fun H locs hP hD hS => ?_)
            have hP : va_P (gD G) vC (mW G b (va_up mi 0 (nI 0)) ma ++ [(q_9, eI G 4 (upd (upd (upd (fun _ => 0) 0 x1) 1 x2) 2 x3))]) H := hP
            have hD : va_D A (mW G b (va_up mi 0 (nI 0)) ma ++ [(q_9, eI G 4 (upd (upd (upd (fun _ => 0) 0 x1) 1 x2) 2 x3))]) := hD
            refine lv_dup hx hb dX4_addHalo_82 rfl ?_
            refine lv_iconst (v := nI 3) hx hb dX4_addHalo_83 (by decide +kernel) ?_
            refine lv_iload hx hb dX4_addHalo_84 (lv_at hl 4 rfl) ?_
            refine x_iast hx hb hK hP hD hS 6 rfl (by omega) (by decide) dX4_addHalo_86 (fun H locs hP hD hS => ?_)
            have hP : va_P (gD G) vC (mW G b (va_up mi 0 (nI 0)) ma ++ [(q_9, eI G 4 (upd (upd (upd (upd (fun _ => 0) 0 x1) 1 x2) 2 x3) 3 x4))]) H := hP
            have hD : va_D A (mW G b (va_up mi 0 (nI 0)) ma ++ [(q_9, eI G 4 (upd (upd (upd (upd (fun _ => 0) 0 x1) 1 x2) 2 x3) 3 x4))]) := hD
            refine lv_astore (lv' := [(5, .ref q_9), (0, .ref (b 0)), (1, .int x1), (2, .int x2), (3, .int x3), (4, .int x4)]) hx hb dX4_addHalo_87 hl (by decide) rfl (fun ls hl => ?_)
            refine lv_aload hx hb dX4_addHalo_89 (lv_at hl 0 rfl) ?_
            refine lv_iconst (v := nI 0) hx hb dX4_addHalo_91 (by decide +kernel) ?_
            refine lv_aload_n hx hb dX4_addHalo_92 rfl (lv_at hl 1 rfl) ?_
            refine x_get (T := TX4) (N := 11) (v := .ref (b 2)) hx hb hts in_X4 hown hK (hP 0 _ rfl) rfl 4 (by decide) k_f13 (fun _ h9 => h9) (rfl) dX4_addHalo_93 ?_
            refine lv_iconst (v := nI 4) hx hb dX4_addHalo_96 (by decide +kernel) ?_
            refine lv_aload_n hx hb dX4_addHalo_97 rfl (lv_at hl 1 rfl) ?_
            refine x_get (T := TX4) (N := 11) (v := .int (nI hn)) hx hb hts in_X4 hown hK (hP 0 _ rfl) rfl 3 (by decide) k_f37 (fun _ h9 => h9) (congrArg (fun z => some (Value.int z)) hmh) dX4_addHalo_98 ?_
            refine x_imulN hx hb dX4_addHalo_101 ?_
            refine lv_iconst (v := nI 4) hx hb dX4_addHalo_102 (by decide +kernel) ?_
            refine x_copyI hx hb (hml.trans hl.1.symm) hown k_m74 k_acn k_acs k_aci hK hP hD hS 6 2 rfl rfl (by omega) (by omega) (by omega) (by omega) (by omega) (Nat.le_of_ble_eq_true rfl) (Nat.le_of_ble_eq_true (by decide +kernel)) dX4_addHalo_103 (fun H locs hP hD hS => ?_)
            have hP : va_P (gD G) vC (mW G b (va_up mi 0 (nI 0)) (va_up ma 1 (va_cpy (upd (upd (upd (upd (fun _ => 0) 0 x1) 1 x2) 2 x3) 3 x4) (ma 1) 0 (4 * hn) 4)) ++ [(q_9, eI G 4 (upd (upd (upd (upd (fun _ => 0) 0 x1) 1 x2) 2 x3) 3 x4))]) H := hP
            have hD : va_D A (mW G b (va_up mi 0 (nI 0)) (va_up ma 1 (va_cpy (upd (upd (upd (upd (fun _ => 0) 0 x1) 1 x2) 2 x3) 3 x4) (ma 1) 0 (4 * hn) 4)) ++ [(q_9, eI G 4 (upd (upd (upd (upd (fun _ => 0) 0 x1) 1 x2) 2 x3) 3 x4))]) := hD
            refine lv_aload_n hx hb dX4_addHalo_106 rfl (lv_at hl 1 rfl) ?_
            refine lv_dup hx hb dX4_addHalo_107 rfl ?_
            refine x_get (T := TX4) (N := 11) (v := .int (nI hn)) hx hb hts in_X4 hown hK (hP 0 _ rfl) rfl 3 (by decide) k_f37 (fun _ h9 => h9) (congrArg (fun z => some (Value.int z)) hmh) dX4_addHalo_108 ?_
            refine lv_iconst (v := nI 1) hx hb dX4_addHalo_111 (by decide +kernel) ?_
            refine x_iaddN hx hb dX4_addHalo_112 ?_
            refine va_put (D := gD G) (ci := 4) (v := .int (nI (hn + 1))) (ty := .int) (C := RX4) (T := TX4) (N := 11) hx hb hts in_X4 tyX4 tyX4_ok nmX4 hown hK hP hD hS 0 rfl rfl 3 (by decide) k_f37 (fun _ h9 => h9) rfl (by decide +kernel) rfl rfl (Nat.le_of_ble_eq_true rfl) dX4_addHalo_113 (fun H locs hP hD hS => ?_)
            have hP : va_P (gD G) vC (mW G b (va_up (va_up mi 0 (nI 0)) 2 (nI (hn + 1))) (va_up ma 1 (va_cpy (upd (upd (upd (upd (fun _ => 0) 0 x1) 1 x2) 2 x3) 3 x4) (ma 1) 0 (4 * hn) 4)) ++ [(q_9, eI G 4 (upd (upd (upd (upd (fun _ => 0) 0 x1) 1 x2) 2 x3) 3 x4))]) H := hP
            have hD : va_D A (mW G b (va_up (va_up mi 0 (nI 0)) 2 (nI (hn + 1))) (va_up ma 1 (va_cpy (upd (upd (upd (upd (fun _ => 0) 0 x1) 1 x2) 2 x3) 3 x4) (ma 1) 0 (4 * hn) 4)) ++ [(q_9, eI G 4 (upd (upd (upd (upd (fun _ => 0) 0 x1) 1 x2) 2 x3) 3 x4))]) := hD
            refine lv_aload_n hx hb dX4_addHalo_116 rfl (lv_at hl 1 rfl) ?_
            refine x_get (T := TX4) (N := 11) (v := .int (nI (hn + 1))) hx hb hts in_X4 hown hK (hP 0 _ rfl) rfl 3 (by decide) k_f37 (fun _ h9 => h9) (rfl) dX4_addHalo_117 ?_
            refine lv_iconst (v := nI 1) hx hb dX4_addHalo_120 (by decide +kernel) ?_
            refine x_isubN hx hb dX4_addHalo_121 (by omega) ?_
            have hkk9 : k2 (inR (nI 0) (nI 100000) x1 && inR (nI 0) (nI 999) x2 && inR (nI 1) (nI 99) x3 && inR (-1) (nI 1) x4) (decide (¬ hn = 16)) = 0 := by simp only [k2, Bool.and_true, Bool.true_and, Bool.and_false, Bool.false_and, c_1, c_3, c_5, c_7, decide_eq_true c_8] <;> rfl
            exact x_iret hQ hx hb hr rfl hlk hS.2.2 dX4_addHalo_122 ⟨hS.fr, mQ_mk (k0 := 0) hkk9 (va_Pl hP) rfl (hmn) (by rw [if_pos hkk9] <;> rfl) (rfl) (by rw [if_pos hkk9] <;> rfl) (fun _ => rfl)⟩
          · refine lv_aload_n hx hb dX4_addHalo_61 rfl (lv_at hl 0 rfl) ?_
            refine lv_iconst (v := nI 2) hx hb dX4_addHalo_62 (by decide +kernel) ?_
            refine x_runi (va_runV (As := [.int (nI 2)]) (rest := []) hC (c_X4_fail hP hD) (cwV 1 hts gX4_addHalo_X4_fail rfl rfl rfl qdX4_fail ⟨Nat.le_of_ble_eq_true rfl, Nat.le_of_ble_eq_true rfl⟩) (x_preV hK (x_recv hK (hP 0 _ rfl) rfl)) rfl rfl hl.1 rfl (lv_room (Nat.le_of_ble_eq_true rfl)) dX4_addHalo_63 ⟨Nat.le_of_ble_eq_true rfl, Nat.le_of_ble_eq_true rfl⟩) hS (fun _ h => h) (fun r_10 H locs hfr hΦ hS => ?_)
            obtain ⟨er_10, hP⟩ := hΦ
            rw [er_10]
            have hP : mP G b (va_up mi 0 (nI 2)) ma H := hP
            have hD : va_D A (mW G b (va_up mi 0 (nI 2)) ma) := hD.same rfl
            have hkk9 : k2 (inR (nI 0) (nI 100000) x1 && inR (nI 0) (nI 999) x2 && inR (nI 1) (nI 99) x3 && inR (-1) (nI 1) x4) (decide (¬ hn = 16)) = 2 := by simp only [k2, Bool.and_true, Bool.true_and, Bool.and_false, Bool.false_and, c_1, c_3, c_5, c_7, decide_eq_false (not_not_intro c_8)] <;> rfl
            have hkn9 : ¬ k2 (inR (nI 0) (nI 100000) x1 && inR (nI 0) (nI 999) x2 && inR (nI 1) (nI 99) x3 && inR (-1) (nI 1) x4) (decide (¬ hn = 16)) = 0 := by rw [hkk9]; decide
            refine W.widen (k := 1) (n := 4) (Nat.zero_le _) (Nat.zero_le _) ?_
            exact x_iret hQ hx hb hr rfl hlk hS.2.2 dX4_addHalo_66 ⟨hS.fr, mQ_mk (k0 := 2) hkk9 hP rfl (hmn) (by rw [if_neg hkn9]; exact hmh) (rfl) (by rw [if_neg hkn9] <;> rfl) (fun z => absurd z (by decide))⟩
        · refine lv_aload_n hx hb dX4_addHalo_46 rfl (lv_at hl 0 rfl) ?_
          refine lv_iconst (v := nI 1) hx hb dX4_addHalo_47 (by decide +kernel) ?_
          refine x_runi (va_runV (As := [.int (nI 1)]) (rest := []) hC (c_X4_fail hP hD) (cwV 1 hts gX4_addHalo_X4_fail rfl rfl rfl qdX4_fail ⟨Nat.le_of_ble_eq_true rfl, Nat.le_of_ble_eq_true rfl⟩) (x_preV hK (x_recv hK (hP 0 _ rfl) rfl)) rfl rfl hl.1 rfl (lv_room (Nat.le_of_ble_eq_true rfl)) dX4_addHalo_48 ⟨Nat.le_of_ble_eq_true rfl, Nat.le_of_ble_eq_true rfl⟩) hS (fun _ h => h) (fun r_11 H locs hfr hΦ hS => ?_)
          obtain ⟨er_11, hP⟩ := hΦ
          rw [er_11]
          have hP : mP G b (va_up mi 0 (nI 1)) ma H := hP
          have hD : va_D A (mW G b (va_up mi 0 (nI 1)) ma) := hD.same rfl
          have hkk9 : k2 (inR (nI 0) (nI 100000) x1 && inR (nI 0) (nI 999) x2 && inR (nI 1) (nI 99) x3 && inR (-1) (nI 1) x4) (decide (¬ hn = 16)) = 1 := by simp only [k2, Bool.and_true, Bool.true_and, Bool.and_false, Bool.false_and, c_1, c_3, c_5, c_7] <;> rfl
          have hkn9 : ¬ k2 (inR (nI 0) (nI 100000) x1 && inR (nI 0) (nI 999) x2 && inR (nI 1) (nI 99) x3 && inR (-1) (nI 1) x4) (decide (¬ hn = 16)) = 0 := by rw [hkk9]; decide
          refine W.widen (k := 1) (n := 4) (Nat.zero_le _) (Nat.zero_le _) ?_
          exact x_iret hQ hx hb hr rfl hlk hS.2.2 dX4_addHalo_51 ⟨hS.fr, mQ_mk (k0 := 1) hkk9 hP rfl (hmn) (by rw [if_neg hkn9]; exact hmh) (rfl) (by rw [if_neg hkn9] <;> rfl) (fun z => absurd z (by decide))⟩
/-- is halo h one by which station i is advised -/
def adB (L T : Nat → Int32) (o : List Nat) (i h : Nat) : Bool := decide (3 ≤ sqM L T o h) && see L T h i
/-- its readings less its guesses, of the first h halos -/
def advL (L T : Nat → Int32) (o : List Nat) (i : Nat) : Nat → List Int32
  | 0 => []
  | h + 1 => if adB L T o i h = true then advL L T o i h ++ [rdg L T h i - gue L T o h i] else advL L T o i h
theorem advL_len (L T : Nat → Int32) (o : List Nat) (i : Nat) : ∀ h, (advL L T o i h).length ≤ h := by
  intro h
  induction h with
  | zero => exact Nat.le_refl 0
  | succ h ih =>
    rw [advL]
    split
    · rw [List.length_append]; show _ + 1 ≤ _; omega
    · omega
theorem advL_y {L T : Nat → Int32} {o : List Nat} {i h : Nat} (c : adB L T o i h = true) : advL L T o i (h + 1) = advL L T o i h ++ [rdg L T h i - gue L T o h i] := if_pos c
theorem advL_n {L T : Nat → Int32} {o : List Nat} {i h : Nat} (c : adB L T o i h = false) : advL L T o i (h + 1) = advL L T o i h := if_neg (by rw [c]; decide)
theorem advL_yl {L T : Nat → Int32} {o : List Nat} {i h : Nat} (c : adB L T o i h = true) : (advL L T o i (h + 1)).length = (advL L T o i h).length + 1 := by
  rw [advL_y c]
  exact List.length_append
theorem advL_upd {L T : Nat → Int32} {o : List Nat} {i h : Nat} {f : Nat → Int32} (c : adB L T o i h = true) (hf : ls' f (advL L T o i h).length = advL L T o i h) : ls' (upd f (advL L T o i h).length (rdg L T h i - gue L T o h i)) (advL L T o i (h + 1)).length = advL L T o i (h + 1) := by
  rw [advL_yl c, ls'_upd, hf, advL_y c]
/-- what advise() tells -/
def adv (hn : Nat) (L T : Nat → Int32) (o : List Nat) (i : Nat) : Int32 := gL L i 3 + (if (advL L T o i hn).length = 0 then nI 0 else midL (advL L T o i hn))
abbrev rmX4_advise : Room := { frames := 5, cells := 1, slots := 16, locals := 116 }
theorem qdX4_advise : yX4_advise.cls = RX4 ∧ yX4_advise.cls ≠ "java/lang/invoke/MethodHandle" ∧ yX4_advise.cls ≠ "java/lang/invoke/VarHandle" ∧ (parseMethodDescriptor yX4_advise.desc).map (fun d => d.parameters.length) = some 1 := by decide +kernel
set_option maxHeartbeats 4000000 in
set_option maxRecDepth 100000 in
theorem c_X4_advise {l : Launch} {G : gT} {A : Nat → Prop} {b : Nat → Nat} {mi : Nat → Int32} {ma : Nat → Nat → Int32} {H0 : Heap} {n hn : Nat} {o : List Nat} {x1 : Int32} (hP : mP G b mi ma H0) (hD : va_D A (mW G b mi ma)) (hmn : mi 1 = nI n) (hmh : mi 2 = nI hn) (hg : OK n hn (ma 0) (ma 1)) (ho : IsOrd (fun s => gL (ma 0) s 0) n o) (hA : ∀ q, H0.size ≤ q → A q) : WrIm G l yX4_advise wsX4_advise rmX4_advise [.ref (b 0), .int x1] H0 A 1 16 (fun r H1 => mQ G b n hn (ma 0) (ma 1) (k1 (vS n x1)) (adv hn (ma 0) (ma 1) o x1.toNatClampNeg) r H1) := by
  refine x_head (bytes := cX4_advise) (maxL := 5) (ret := (some .int)) (by decide) rfl (Nat.le_of_ble_eq_true rfl) ?_
  intro p e s m below meth c ls hx hb hml hown hts hr hlk hnm hK hs0 hl Q hQ
  have hl : lv_has ls 5 [(0, .ref (b 0)), (1, .int x1)] := hl
  have hC : CallFix p m c cX4_advise 5 s [.ref (b 0), .int x1].toArray wsX4_advise RX4 := ⟨hx, hb, hml, hown, hts⟩
  have k_f25 := hts (.fieldLink RX4 25 "SundogLineModel" "thrown" "I") (by decide +kernel)
  have in_X4 : ∀ w ∈ u_ws RX4 TX4 11, w ∈ wsX4_advise := by decide +kernel
  have k_arr := hts (.arrayClass .int) (by decide +kernel)
  have k_f37 := hts (.fieldLink RX4 37 "SundogLineModel" "halos" "I") (by decide +kernel)
  have k_f22 := hts (.fieldLink RX4 22 "SundogLineModel" "values" "[I") (by decide +kernel)
  have k_m74 := hts (.methodLink RX4 74 arraycopyName) (by decide +kernel)
  have k_acn := hts (.native arraycopyName) (by decide +kernel)
  have k_acs := hts (.static arraycopyName) (by decide +kernel)
  have k_aci := hts (.initialized "java/lang/System") (by decide +kernel)
  have k_f103 := hts (.fieldLink RX4 103 "SundogLineModel" "many" "I") (by decide +kernel)
  have hS : va_S A H0 H0 [] := va_S.rf
  have hn12 := hg.n
  have hh16 := hg.hn
  refine lv_aload_n hx hb dX4_advise_0 rfl (lv_at hl 0 rfl) ?_
  refine lv_iconst (v := nI 0) hx hb dX4_advise_1 (by decide +kernel) ?_
  refine va_put (D := gD G) (ci := 4) (v := .int (nI 0)) (ty := .int) (C := RX4) (T := TX4) (N := 11) hx hb hts in_X4 tyX4 tyX4_ok nmX4 hown hK hP hD hS 0 rfl rfl 0 (by decide) k_f25 (fun _ h9 => h9) rfl (by decide +kernel) rfl rfl (Nat.le_of_ble_eq_true rfl) dX4_advise_2 (fun H locs hP hD hS => ?_)
  have hP : mP G b (va_up mi 0 (nI 0)) ma H := hP
  have hD : va_D A (mW G b (va_up mi 0 (nI 0)) ma) := hD
  refine lv_aload_n hx hb dX4_advise_5 rfl (lv_at hl 0 rfl) ?_
  refine lv_iload_n hx hb dX4_advise_6 rfl (lv_at hl 1 rfl) ?_
  refine x_rd (va_runV (As := [.int x1]) (rest := []) hC (c_X4_isStation hP hmn) (cwV 1 hts gX4_advise_X4_isStation rfl rfl rfl qdX4_isStation ⟨Nat.le_of_ble_eq_true rfl, Nat.le_of_ble_eq_true rfl⟩) (x_preV hK (x_recv hK (hP 0 _ rfl) rfl)) rfl rfl hl.1 rfl (lv_room (Nat.le_of_ble_eq_true rfl)) dX4_advise_7 ⟨Nat.le_of_ble_eq_true rfl, Nat.le_of_ble_eq_true rfl⟩) ?_
  refine W.eq (g2 := F0 m 10 ls [.int (bI (vS n x1))]) rfl ?_
  refine x_if_neB (tgt := 19) hx hb dX4_advise_10 (by decide) (fun c_1 => ?_) (fun c_1 => ?_)
  · obtain ⟨i, hi, rfl⟩ := inR_nat (show n < 2 ^ 30 by omega) c_1
    refine lv_bipush (v := nI 16) hx hb dX4_advise_19 (by decide +kernel) ?_
    refine x_newI (N := 16) hx hb k_arr hK hP hD hS hA (by decide) (by decide) (Nat.le_of_ble_eq_true rfl) (Nat.le_of_ble_eq_true rfl) dX4_advise_21 (fun q_2 H hP hD hS => ?_)
    have hP : va_P (gD G) vC (mW G b (va_up mi 0 (nI 0)) ma ++ [(q_2, eI G 16 (fun _ => 0))]) H := hP
    have hD : va_D A (mW G b (va_up mi 0 (nI 0)) ma ++ [(q_2, eI G 16 (fun _ => 0))]) := hD
    refine lv_astore_n (lv' := [(2, .ref q_2), (0, .ref (b 0)), (1, .int (nI i))]) hx hb dX4_advise_23 rfl hl (by decide) rfl (fun ls hl => ?_)
    refine lv_iconst (v := nI 0) hx hb dX4_advise_24 (by decide +kernel) ?_
    refine lv_istore_n (lv' := [(3, .int (nI 0)), (2, .ref q_2), (0, .ref (b 0)), (1, .int (nI i))]) hx hb dX4_advise_25 rfl hl (by decide) rfl (fun ls hl => ?_)
    refine lv_iconst (v := nI 0) hx hb dX4_advise_26 (by decide +kernel) ?_
    refine lv_istore (lv' := [(4, .int (nI 0)), (3, .int (nI 0)), (2, .ref q_2), (0, .ref (b 0)), (1, .int (nI i))]) hx hb dX4_advise_27 hl (by decide) rfl (fun ls hl => ?_)
    have hP : va_P (gD G) vC (mW G b (va_up (va_up (va_up (va_up mi 0 (nI 0)) 3 (mi 3)) 4 (mi 4)) 5 (mi 5)) (va_up (va_up (va_up ma 2 (ma 2)) 3 (ma 3)) 4 (ma 4)) ++ [(q_2, eI G 16 (fun _ => 0))]) H := hP
    have hD : va_D A (mW G b (va_up (va_up (va_up (va_up mi 0 (nI 0)) 3 (mi 3)) 4 (mi 4)) 5 (mi 5)) (va_up (va_up (va_up ma 2 (ma 2)) 3 (ma 3)) 4 (ma 4)) ++ [(q_2, eI G 16 (fun _ => 0))]) := hD.same rfl
    have loop_3 : ∀ (fu : Nat) (j : Nat) (x9 : Int32) (y9 : Int32) (z9 : Int32) (s9 : Nat → Int32) (r9 : Nat → Int32) (v9 : Nat → Int32) (f9 : Nat → Int32) (H : Heap) (locs : List Loc) (ls : Array Slot), hn - j < fu → (j ≤ hn) → (ls' f9 (advL (ma 0) (ma 1) o i j).length = (advL (ma 0) (ma 1) o i j)) → (va_P (gD G) vC (mW G b (va_up (va_up (va_up (va_up mi 0 (nI 0)) 3 x9) 4 y9) 5 z9) (va_up (va_up (va_up ma 2 s9) 3 r9) 4 v9) ++ [(q_2, eI G 16 f9)]) H) → (va_S A H0 H locs) → lv_has ls 5 [(0, .ref (b 0)), (1, .int (nI i)), (2, .ref q_2), (3, .int (nI ((advL (ma 0) (ma 1) o i j).length))), (4, .int (nI j))] → W p l e rmX4_advise s m [.ref (b 0), .int (nI i)].toArray below meth c H locs 1 16 Q (F0 m 29 ls []) := by
      intro fu
      induction fu with
      | zero => intro j x9 y9 z9 s9 r9 v9 f9 H locs ls hms hjn hf hP hS hl; exact absurd hms (Nat.not_lt_zero _)
      | succ fu ih_3 =>
        intro j x9 y9 z9 s9 r9 v9 f9 H locs ls hms hjn hf hP hS hl
        have hD : va_D A (mW G b (va_up (va_up (va_up (va_up mi 0 (nI 0)) 3 x9) 4 y9) 5 z9) (va_up (va_up (va_up ma 2 s9) 3 r9) 4 v9) ++ [(q_2, eI G 16 f9)]) := hD.same rfl
        refine lv_iload hx hb dX4_advise_29 (lv_at hl 4 rfl) ?_
        refine lv_aload_n hx hb dX4_advise_31 rfl (lv_at hl 0 rfl) ?_
        refine x_get (T := TX4) (N := 11) (v := .int (nI hn)) hx hb hts in_X4 hown hK (hP 0 _ rfl) rfl 3 (by decide) k_f37 (fun _ h9 => h9) (congrArg (fun z => some (Value.int z)) hmh) dX4_advise_32 ?_
        refine x_icmp_ge (tgt := 90) hx hb (by omega) (by omega) dX4_advise_35 (by decide) (fun c_4 => ?_) (fun c_4 => ?_)
        · have hjh : j = hn := by omega
          rw [hjh] at hf hl
          have hlen := advL_len (ma 0) (ma 1) o i hn
          refine lv_aload_n hx hb dX4_advise_90 rfl (lv_at hl 2 rfl) ?_
          refine lv_iconst (v := nI 0) hx hb dX4_advise_91 (by decide +kernel) ?_
          refine lv_aload_n hx hb dX4_advise_92 rfl (lv_at hl 0 rfl) ?_
          refine x_get (T := TX4) (N := 11) (v := .ref (b 5)) hx hb hts in_X4 hown hK (hP 0 _ rfl) rfl 10 (by decide) k_f22 (fun _ h9 => h9) (rfl) dX4_advise_93 ?_
          refine lv_iconst (v := nI 0) hx hb dX4_advise_96 (by decide +kernel) ?_
          refine lv_bipush (v := nI 16) hx hb dX4_advise_97 (by decide +kernel) ?_
          refine x_copyI hx hb (hml.trans hl.1.symm) hown k_m74 k_acn k_acs k_aci hK hP hD hS 6 5 rfl rfl (by omega) (by omega) (by omega) (by omega) (by omega) (Nat.le_of_ble_eq_true rfl) (Nat.le_of_ble_eq_true (by decide +kernel)) dX4_advise_99 (fun H locs hP hD hS => ?_)
          have hP : va_P (gD G) vC (mW G b (va_up (va_up (va_up (va_up mi 0 (nI 0)) 3 x9) 4 y9) 5 z9) (va_up (va_up (va_up ma 2 s9) 3 r9) 4 (va_cpy f9 v9 0 0 16)) ++ [(q_2, eI G 16 f9)]) H := hP
          have hD : va_D A (mW G b (va_up (va_up (va_up (va_up mi 0 (nI 0)) 3 x9) 4 y9) 5 z9) (va_up (va_up (va_up ma 2 s9) 3 r9) 4 (va_cpy f9 v9 0 0 16)) ++ [(q_2, eI G 16 f9)]) := hD
          refine lv_aload_n hx hb dX4_advise_102 rfl (lv_at hl 0 rfl) ?_
          refine lv_iload_n hx hb dX4_advise_103 rfl (lv_at hl 1 rfl) ?_
          refine lv_iconst (v := nI 3) hx hb dX4_advise_104 (by decide +kernel) ?_
          refine x_rd (va_runV (As := [.int (nI i), .int (nI 3)]) (rest := []) hC (c_X4_get (va_Pl hP) (by omega) (by omega)) (cwV 2 hts gX4_advise_X4_get rfl rfl rfl qdX4_get ⟨Nat.le_of_ble_eq_true rfl, Nat.le_of_ble_eq_true rfl⟩) (x_preV hK (x_recv hK (hP 0 _ rfl) rfl)) rfl rfl hl.1 rfl (lv_room (Nat.le_of_ble_eq_true rfl)) dX4_advise_105 ⟨Nat.le_of_ble_eq_true rfl, Nat.le_of_ble_eq_true rfl⟩) ?_
          refine W.eq (g2 := F0 m 108 ls [.int (gL (ma 0) i 3)]) rfl ?_
          refine lv_iload_n hx hb dX4_advise_108 rfl (lv_at hl 3 rfl) ?_
          refine x_if_neN (tgt := 116) hx hb (by omega) dX4_advise_109 (by decide) (fun c_5 => ?_) (fun c_5 => ?_)
          · refine lv_aload_n hx hb dX4_advise_116 rfl (lv_at hl 0 rfl) ?_
            refine lv_iload_n hx hb dX4_advise_117 rfl (lv_at hl 3 rfl) ?_
            refine x_runi (va_runV (As := [.int (nI ((advL (ma 0) (ma 1) o i hn).length))]) (rest := [.int (gL (ma 0) i 3)]) hC (c_X4_middle (A := aset (mW G b (va_up (va_up (va_up (va_up mi 0 (nI 0)) 3 x9) 4 y9) 5 z9) (va_up (va_up (va_up ma 2 s9) 3 r9) 4 (va_cpy f9 v9 0 0 16)))) (va_Pl hP) (aset_D (va_Dl hD)) (by omega) (by omega)) (cwV 1 hts gX4_advise_X4_middle rfl rfl rfl qdX4_middle ⟨Nat.le_of_ble_eq_true rfl, Nat.le_of_ble_eq_true rfl⟩) (x_preV hK (x_recv hK (hP 0 _ rfl) rfl)) rfl rfl hl.1 rfl (lv_room (Nat.le_of_ble_eq_true rfl)) dX4_advise_118 ⟨Nat.le_of_ble_eq_true rfl, Nat.le_of_ble_eq_true rfl⟩) hS (aset_A (va_Dl hD)) (fun r_6 H locs hfr hΦ hS => ?_)
            obtain ⟨er_6, v_7, hP9⟩ := hΦ
            have hP : va_P (gD G) vC (mW G b (va_up (va_up (va_up (va_up mi 0 (nI 0)) 3 x9) 4 y9) 5 z9) (va_up (va_up (va_up ma 2 s9) 3 r9) 4 v_7) ++ [(q_2, eI G 16 f9)]) H := ext_call hP hD hfr hP9
            have hD : va_D A (mW G b (va_up (va_up (va_up (va_up mi 0 (nI 0)) 3 x9) 4 y9) 5 z9) (va_up (va_up (va_up ma 2 s9) 3 r9) 4 v_7) ++ [(q_2, eI G 16 f9)]) := hD.same rfl
            refine W.eq (g2 := F0 m 121 ls [.int (midL (advL (ma 0) (ma 1) o i hn)), .int (gL (ma 0) i 3)]) (congrArg (fun z => F0 m 121 ls (.int z :: [.int (gL (ma 0) i 3)])) (by rw [er_6]; exact congrArg midL ((ls'_congr (fun x9 hx9 => by show va_cpy _ _ 0 0 16 x9 = _; rw [pk_cpy_in (Nat.zero_le _) (by omega)]; rw [Nat.zero_add, Nat.sub_zero])).trans hf))) ?_
            refine lv_iadd hx hb dX4_advise_121 ?_
            have hkk9 : k1 (vS n (nI i)) = 0 := by simp only [k1, k2, k3, Bool.and_true, Bool.true_and, Bool.and_false, Bool.false_and, Bool.not_true, Bool.not_false, c_1] <;> rfl
            exact x_iret hQ hx hb hr rfl hlk hS.2.2 dX4_advise_122 ⟨hS.fr, mQ_mk (k0 := 0) hkk9 (va_Pl hP) rfl (hmn) (hmh) (rfl) (rfl) (fun _ => by rw [nI_clamp (show i < 2 ^ 31 by omega), adv, if_neg (show ¬ (advL (ma 0) (ma 1) o i hn).length = 0 by omega)])⟩
          · refine lv_iconst (v := nI 0) hx hb dX4_advise_112 (by decide +kernel) ?_
            refine lv_goto (tgt := 121) hx hb dX4_advise_113 (by decide) ?_
            refine lv_iadd hx hb dX4_advise_121 ?_
            have hkk9 : k1 (vS n (nI i)) = 0 := by simp only [k1, k2, k3, Bool.and_true, Bool.true_and, Bool.and_false, Bool.false_and, Bool.not_true, Bool.not_false, c_1] <;> rfl
            exact x_iret hQ hx hb hr rfl hlk hS.2.2 dX4_advise_122 ⟨hS.fr, mQ_mk (k0 := 0) hkk9 (va_Pl hP) rfl (hmn) (hmh) (rfl) (rfl) (fun _ => by rw [nI_clamp (show i < 2 ^ 31 by omega), adv, if_pos (show (advL (ma 0) (ma 1) o i hn).length = 0 by omega)])⟩
        · refine lv_aload_n hx hb dX4_advise_38 rfl (lv_at hl 0 rfl) ?_
          refine lv_iload hx hb dX4_advise_39 (lv_at hl 4 rfl) ?_
          refine x_runv (va_runV (As := [.int (nI j)]) (rest := []) hC (c_X4_reckon (A := aset (mW G b (va_up (va_up (va_up (va_up mi 0 (nI 0)) 3 x9) 4 y9) 5 z9) (va_up (va_up (va_up ma 2 s9) 3 r9) 4 v9))) (va_Pl hP) (aset_D (va_Dl hD)) hg (by omega) hmn ho) (cwV 1 hts gX4_advise_X4_reckon rfl rfl rfl qdX4_reckon ⟨Nat.le_of_ble_eq_true rfl, Nat.le_of_ble_eq_true rfl⟩) (x_preV hK (x_recv hK (hP 0 _ rfl) rfl)) rfl rfl hl.1 rfl (lv_room (Nat.le_of_ble_eq_true rfl)) dX4_advise_41 ⟨Nat.le_of_ble_eq_true rfl, Nat.le_of_ble_eq_true rfl⟩) hS (aset_A (va_Dl hD)) (fun H locs hfr hΦ hS => ?_)
          obtain ⟨sA8, rA8, vA8, hsA8, hrA8, hP9⟩ := hΦ
          have hP : va_P (gD G) vC (mW G b (va_up (va_up (va_up (va_up mi 0 (nI 0)) 3 (nI (sqL (ma 0) (ma 1) o j).length)) 4 (slp (ma 0) (ma 1) o j)) 5 (bas (ma 0) (ma 1) o j)) (va_up (va_up (va_up ma 2 sA8) 3 rA8) 4 vA8) ++ [(q_2, eI G 16 f9)]) H := ext_call hP hD hfr hP9
          have hD : va_D A (mW G b (va_up (va_up (va_up (va_up mi 0 (nI 0)) 3 (nI (sqL (ma 0) (ma 1) o j).length)) 4 (slp (ma 0) (ma 1) o j)) 5 (bas (ma 0) (ma 1) o j)) (va_up (va_up (va_up ma 2 sA8) 3 rA8) 4 vA8) ++ [(q_2, eI G 16 f9)]) := hD.same rfl
          have hM8 : (sqL (ma 0) (ma 1) o j).length ≤ n := sqM_le ho
          refine lv_aload_n hx hb dX4_advise_44 rfl (lv_at hl 0 rfl) ?_
          refine x_get (T := TX4) (N := 11) (v := .int (nI ((sqL (ma 0) (ma 1) o j).length))) hx hb hts in_X4 hown hK (hP 0 _ rfl) rfl 7 (by decide) k_f103 (fun _ h9 => h9) (rfl) dX4_advise_45 ?_
          refine lv_iconst (v := nI 3) hx hb dX4_advise_48 (by decide +kernel) ?_
          refine x_icmp_lt (tgt := 84) hx hb (by omega) (by omega) dX4_advise_49 (by decide) (fun c_9 => ?_) (fun c_9 => ?_)
          · have hadn : adB (ma 0) (ma 1) o i j = false := by rw [adB, decide_eq_false (Nat.not_le.mpr c_9)]; rfl
            have hl : lv_has ls 5 [(0, .ref (b 0)), (1, .int (nI i)), (2, .ref q_2), (3, .int (nI ((advL (ma 0) (ma 1) o i (j + 1)).length))), (4, .int (nI j))] := by
              have e9 : (advL (ma 0) (ma 1) o i (j + 1)).length = (advL (ma 0) (ma 1) o i j).length := by rw [advL_n hadn]
              rw [e9]; exact hl
            refine lv_iinc (v := nI (j + 1)) (lv' := [(4, .int (nI (j + 1))), (0, .ref (b 0)), (1, .int (nI i)), (2, .ref q_2), (3, .int (nI ((advL (ma 0) (ma 1) o i (j + 1)).length)))]) hx hb dX4_advise_84 hl (k := 4) rfl (nI_incn _) (by decide) rfl (fun ls hl => ?_)
            refine lv_goto (tgt := 29) hx hb dX4_advise_87 (by decide) ?_
            exact ih_3 (j + 1) (nI (sqL (ma 0) (ma 1) o j).length) (slp (ma 0) (ma 1) o j) (bas (ma 0) (ma 1) o j) sA8 rA8 vA8 f9 _ _ ls (by omega) (by omega) (by rw [advL_n hadn]; exact hf) (hP) (hS) (lv_sub hl [1, 2, 3, 4, 0] rfl)
          · refine lv_aload_n hx hb dX4_advise_52 rfl (lv_at hl 0 rfl) ?_
            refine lv_iload hx hb dX4_advise_53 (lv_at hl 4 rfl) ?_
            refine lv_iload_n hx hb dX4_advise_55 rfl (lv_at hl 1 rfl) ?_
            refine x_rd (va_runV (As := [.int (nI j), .int (nI i)]) (rest := []) hC (c_X4_sees (va_Pl hP) hg (by omega) (by omega)) (cwV 2 hts gX4_advise_X4_sees rfl rfl rfl qdX4_sees ⟨Nat.le_of_ble_eq_true rfl, Nat.le_of_ble_eq_true rfl⟩) (x_preV hK (x_recv hK (hP 0 _ rfl) rfl)) rfl rfl hl.1 rfl (lv_room (Nat.le_of_ble_eq_true rfl)) dX4_advise_56 ⟨Nat.le_of_ble_eq_true rfl, Nat.le_of_ble_eq_true rfl⟩) ?_
            refine W.eq (g2 := F0 m 59 ls [.int (bI (see (ma 0) (ma 1) j i))]) rfl ?_
            refine x_if_neB (tgt := 65) hx hb dX4_advise_59 (by decide) (fun c_10 => ?_) (fun c_10 => ?_)
            · have hlen := advL_len (ma 0) (ma 1) o i j
              have hady : adB (ma 0) (ma 1) o i j = true := by rw [adB, c_10, decide_eq_true c_9]; rfl
              refine lv_aload_n hx hb dX4_advise_65 rfl (lv_at hl 2 rfl) ?_
              refine lv_iload_n hx hb dX4_advise_66 rfl (lv_at hl 3 rfl) ?_
              refine lv_aload_n hx hb dX4_advise_67 rfl (lv_at hl 0 rfl) ?_
              refine lv_iload hx hb dX4_advise_68 (lv_at hl 4 rfl) ?_
              refine lv_iload_n hx hb dX4_advise_70 rfl (lv_at hl 1 rfl) ?_
              refine x_rd (va_runV (As := [.int (nI j), .int (nI i)]) (rest := [.int (nI ((advL (ma 0) (ma 1) o i j).length)), .ref q_2]) hC (c_X4_readingOf (va_Pl hP) hg (by omega) (by omega)) (cwV 2 hts gX4_advise_X4_readingOf rfl rfl rfl qdX4_readingOf ⟨Nat.le_of_ble_eq_true rfl, Nat.le_of_ble_eq_true rfl⟩) (x_preV hK (x_recv hK (hP 0 _ rfl) rfl)) rfl rfl hl.1 rfl (lv_room (Nat.le_of_ble_eq_true rfl)) dX4_advise_71 ⟨Nat.le_of_ble_eq_true rfl, Nat.le_of_ble_eq_true rfl⟩) ?_
              refine W.eq (g2 := F0 m 74 ls [.int (rdg (ma 0) (ma 1) j i), .int (nI ((advL (ma 0) (ma 1) o i j).length)), .ref q_2]) rfl ?_
              refine lv_aload_n hx hb dX4_advise_74 rfl (lv_at hl 0 rfl) ?_
              refine lv_iload_n hx hb dX4_advise_75 rfl (lv_at hl 1 rfl) ?_
              refine x_rd (va_runV (As := [.int (nI i)]) (rest := [.int (rdg (ma 0) (ma 1) j i), .int (nI ((advL (ma 0) (ma 1) o i j).length)), .ref q_2]) hC (c_X4_guessOf (M := (sqL (ma 0) (ma 1) o j).length) (va_Pl hP) (by omega) rfl (by omega)) (cwV 1 hts gX4_advise_X4_guessOf rfl rfl rfl qdX4_guessOf ⟨Nat.le_of_ble_eq_true rfl, Nat.le_of_ble_eq_true rfl⟩) (x_preV hK (x_recv hK (hP 0 _ rfl) rfl)) rfl rfl hl.1 rfl (lv_room (Nat.le_of_ble_eq_true rfl)) dX4_advise_76 ⟨Nat.le_of_ble_eq_true rfl, Nat.le_of_ble_eq_true rfl⟩) ?_
              refine W.eq (g2 := F0 m 79 ls [.int (gue (ma 0) (ma 1) o j i), .int (rdg (ma 0) (ma 1) j i), .int (nI ((advL (ma 0) (ma 1) o i j).length)), .ref q_2]) rfl ?_
              refine lv_isub hx hb dX4_advise_79 ?_
              refine x_iast hx hb hK hP hD hS 6 rfl (by omega) (by decide) dX4_advise_80 (fun H locs hP hD hS => ?_)
              have hP : va_P (gD G) vC (mW G b (va_up (va_up (va_up (va_up mi 0 (nI 0)) 3 (nI (sqL (ma 0) (ma 1) o j).length)) 4 (slp (ma 0) (ma 1) o j)) 5 (bas (ma 0) (ma 1) o j)) (va_up (va_up (va_up ma 2 sA8) 3 rA8) 4 vA8) ++ [(q_2, eI G 16 (upd f9 ((advL (ma 0) (ma 1) o i j).length) ((rdg (ma 0) (ma 1) j i) - (gue (ma 0) (ma 1) o j i))))]) H := hP
              have hD : va_D A (mW G b (va_up (va_up (va_up (va_up mi 0 (nI 0)) 3 (nI (sqL (ma 0) (ma 1) o j).length)) 4 (slp (ma 0) (ma 1) o j)) 5 (bas (ma 0) (ma 1) o j)) (va_up (va_up (va_up ma 2 sA8) 3 rA8) 4 vA8) ++ [(q_2, eI G 16 (upd f9 ((advL (ma 0) (ma 1) o i j).length) ((rdg (ma 0) (ma 1) j i) - (gue (ma 0) (ma 1) o j i))))]) := hD
              refine lv_iinc (v := nI (((advL (ma 0) (ma 1) o i j).length) + 1)) (lv' := [(3, .int (nI (((advL (ma 0) (ma 1) o i j).length) + 1))), (0, .ref (b 0)), (1, .int (nI i)), (2, .ref q_2), (4, .int (nI j))]) hx hb dX4_advise_81 hl (k := 3) rfl (nI_incn _) (by decide) rfl (fun ls hl => ?_)
              have hl : lv_has ls 5 [(3, .int (nI ((advL (ma 0) (ma 1) o i (j + 1)).length))), (0, .ref (b 0)), (1, .int (nI i)), (2, .ref q_2), (4, .int (nI j))] := by
                have e9 : (advL (ma 0) (ma 1) o i (j + 1)).length = ((advL (ma 0) (ma 1) o i j).length) + 1 := advL_yl hady
                rw [e9]; exact hl
              refine lv_iinc (v := nI (j + 1)) (lv' := [(4, .int (nI (j + 1))), (3, .int (nI ((advL (ma 0) (ma 1) o i (j + 1)).length))), (0, .ref (b 0)), (1, .int (nI i)), (2, .ref q_2)]) hx hb dX4_advise_84 hl (k := 4) rfl (nI_incn _) (by decide) rfl (fun ls hl => ?_)
              refine lv_goto (tgt := 29) hx hb dX4_advise_87 (by decide) ?_
              exact ih_3 (j + 1) (nI (sqL (ma 0) (ma 1) o j).length) (slp (ma 0) (ma 1) o j) (bas (ma 0) (ma 1) o j) sA8 rA8 vA8 (upd f9 ((advL (ma 0) (ma 1) o i j).length) ((rdg (ma 0) (ma 1) j i) - (gue (ma 0) (ma 1) o j i))) _ _ ls (by omega) (by omega) (advL_upd hady hf) (hP) (hS) (lv_sub hl [2, 3, 4, 1, 0] rfl)
            · refine lv_goto (tgt := 84) hx hb dX4_advise_62 (by decide) ?_
              have hadn : adB (ma 0) (ma 1) o i j = false := by rw [adB, c_10, Bool.and_false]
              have hl : lv_has ls 5 [(0, .ref (b 0)), (1, .int (nI i)), (2, .ref q_2), (3, .int (nI ((advL (ma 0) (ma 1) o i (j + 1)).length))), (4, .int (nI j))] := by
                have e9 : (advL (ma 0) (ma 1) o i (j + 1)).length = (advL (ma 0) (ma 1) o i j).length := by rw [advL_n hadn]
                rw [e9]; exact hl
              refine lv_iinc (v := nI (j + 1)) (lv' := [(4, .int (nI (j + 1))), (0, .ref (b 0)), (1, .int (nI i)), (2, .ref q_2), (3, .int (nI ((advL (ma 0) (ma 1) o i (j + 1)).length)))]) hx hb dX4_advise_84 hl (k := 4) rfl (nI_incn _) (by decide) rfl (fun ls hl => ?_)
              refine lv_goto (tgt := 29) hx hb dX4_advise_87 (by decide) ?_
              exact ih_3 (j + 1) (nI (sqL (ma 0) (ma 1) o j).length) (slp (ma 0) (ma 1) o j) (bas (ma 0) (ma 1) o j) sA8 rA8 vA8 f9 _ _ ls (by omega) (by omega) (by rw [advL_n hadn]; exact hf) (hP) (hS) (lv_sub hl [1, 2, 3, 4, 0] rfl)
    exact loop_3 _ 0 (mi 3) (mi 4) (mi 5) (ma 2) (ma 3) (ma 4) (fun _ => 0) _ _ ls (Nat.lt_succ_self _) (Nat.zero_le _) (rfl) (hP) (hS) (lv_sub hl [3, 4, 2, 1, 0] rfl)
  · refine lv_aload_n hx hb dX4_advise_13 rfl (lv_at hl 0 rfl) ?_
    refine lv_iconst (v := nI 1) hx hb dX4_advise_14 (by decide +kernel) ?_
    refine x_runi (va_runV (As := [.int (nI 1)]) (rest := []) hC (c_X4_fail hP hD) (cwV 1 hts gX4_advise_X4_fail rfl rfl rfl qdX4_fail ⟨Nat.le_of_ble_eq_true rfl, Nat.le_of_ble_eq_true rfl⟩) (x_preV hK (x_recv hK (hP 0 _ rfl) rfl)) rfl rfl hl.1 rfl (lv_room (Nat.le_of_ble_eq_true rfl)) dX4_advise_15 ⟨Nat.le_of_ble_eq_true rfl, Nat.le_of_ble_eq_true rfl⟩) hS (fun _ h => h) (fun r_11 H locs hfr hΦ hS => ?_)
    obtain ⟨er_11, hP⟩ := hΦ
    rw [er_11]
    have hP : mP G b (va_up mi 0 (nI 1)) ma H := hP
    have hD : va_D A (mW G b (va_up mi 0 (nI 1)) ma) := hD.same rfl
    have hkk9 : k1 (vS n x1) = 1 := by simp only [k1, k2, k3, Bool.and_true, Bool.true_and, Bool.and_false, Bool.false_and, Bool.not_true, Bool.not_false, c_1] <;> rfl
    have hkn9 : ¬ k1 (vS n x1) = 0 := by rw [hkk9]; decide
    refine W.widen (k := 1) (n := 16) (Nat.zero_le _) (Nat.zero_le _) ?_
    exact x_iret hQ hx hb hr rfl hlk hS.2.2 dX4_advise_18 ⟨hS.fr, mQ_mk (k0 := 1) hkk9 hP rfl (hmn) (hmh) (rfl) (rfl) (fun z => absurd z (by decide))⟩
abbrev rmX4_init : Room := { frames := 1, cells := 5, slots := 388, locals := 14 }
theorem qdX4_init : yX4_init.cls ≠ "java/lang/invoke/MethodHandle" ∧ yX4_init.cls ≠ "java/lang/invoke/VarHandle" ∧ (parseMethodDescriptor yX4_init.desc).map (fun d => d.parameters.length) = some 0 := by decide +kernel
set_option maxHeartbeats 4000000 in
set_option maxRecDepth 100000 in
theorem c_X4_init {l : Launch} {G : gT} {A : Nat → Prop} {a0 : Nat} {H0 : Heap} (hP : va_P (gD G) vC [(a0, .inr (4, [.int 0, .int 0, .null, .int 0, .null, .null, .null, .int 0, .int 0, .int 0, .null]))] H0) (hD : va_D A [(a0, .inr (4, [.int 0, .int 0, .null, .int 0, .null, .null, .null, .int 0, .int 0, .int 0, .null]))]) (hA : ∀ q, H0.size ≤ q → A q) : WrVm G l yX4_init wsX4_init rmX4_init [.ref a0] H0 A 5 388 (fun H1 => ∃ b : Nat → Nat, b 0 = a0 ∧ mP G b (fun _ => 0) (fun _ _ => 0) H1 ∧ va_D A (mW G b (fun _ => 0) (fun _ _ => 0))) := by
  refine x_head (bytes := cX4_init) (maxL := 1) (ret := none) (by decide) rfl (Nat.le_of_ble_eq_true rfl) ?_
  intro p e s m below meth c ls hx hb hml hown hts hr hlk hnm hK hs0 hl Q hQ
  have hl : lv_has ls 1 [(0, .ref a0)] := hl
  have hC : CallFix p m c cX4_init 1 s [.ref a0].toArray wsX4_init RX4 := ⟨hx, hb, hml, hown, hts⟩
  have k_m3 := hts (.methodLink RX4 3 objectInit) (by decide +kernel)
  have k_oi := hts (.instanceMethod objectInit) (by decide +kernel)
  have k_oc := hts (.code objectInit ⟨#[0xb1]⟩ 1 none) (by decide +kernel)
  have k_arr := hts (.arrayClass .int) (by decide +kernel)
  have k_f9 := hts (.fieldLink RX4 9 "SundogLineModel" "line" "[I") (by decide +kernel)
  have in_X4 : ∀ w ∈ u_ws RX4 TX4 11, w ∈ wsX4_init := by decide +kernel
  have k_f13 := hts (.fieldLink RX4 13 "SundogLineModel" "table" "[I") (by decide +kernel)
  have k_f16 := hts (.fieldLink RX4 16 "SundogLineModel" "seers" "[I") (by decide +kernel)
  have k_f19 := hts (.fieldLink RX4 19 "SundogLineModel" "readings" "[I") (by decide +kernel)
  have k_f22 := hts (.fieldLink RX4 22 "SundogLineModel" "values" "[I") (by decide +kernel)
  have hS : va_S A H0 H0 [] := va_S.rf
  refine lv_aload_n hx hb dX4_init_0 rfl (lv_at hl 0 rfl) ?_
  refine W.objInit hx hb hown k_m3 k_oi k_oc rfl (by rw [hml]; exact hl.1) rfl dX4_init_1 (Nat.le_of_ble_eq_true rfl) (Nat.le_of_ble_eq_true rfl) ?_
  refine W.eq (g2 := F0 m 4 ls []) rfl ?_
  refine lv_aload_n hx hb dX4_init_4 rfl (lv_at hl 0 rfl) ?_
  refine lv_sipush (v := nI 156) hx hb dX4_init_5 (by decide +kernel) ?_
  refine x_newI (N := 156) hx hb k_arr hK hP hD hS hA (by decide) (by decide) (Nat.le_of_ble_eq_true rfl) (Nat.le_of_ble_eq_true rfl) dX4_init_8 (fun q_1 H hP hD hS => ?_)
  have hP : va_P (gD G) vC [(a0, .inr (4, [.int 0, .int 0, .null, .int 0, .null, .null, .null, .int 0, .int 0, .int 0, .null])), (q_1, eI G 156 (fun _ => 0))] H := hP
  have hD : va_D A [(a0, .inr (4, [.int 0, .int 0, .null, .int 0, .null, .null, .null, .int 0, .int 0, .int 0, .null])), (q_1, eI G 156 (fun _ => 0))] := hD
  refine va_putF (D := gD G) (ci := 4) (v := .ref q_1) (ty := (.array .int)) (C := RX4) (T := TX4) (N := 11) hx hb hts in_X4 tyX4 tyX4_ok nmX4 hown hK hP hD hS 0 rfl rfl 2 (by decide) k_f9 (fun _ h9 => h9) rfl hnm rfl (by decide +kernel) rfl rfl (Nat.le_of_ble_eq_true rfl) dX4_init_10 (fun H locs hP hD hS => ?_)
  have hP : va_P (gD G) vC [(a0, .inr (4, [.int 0, .int 0, .ref q_1, .int 0, .null, .null, .null, .int 0, .int 0, .int 0, .null])), (q_1, eI G 156 (fun _ => 0))] H := hP
  have hD : va_D A [(a0, .inr (4, [.int 0, .int 0, .ref q_1, .int 0, .null, .null, .null, .int 0, .int 0, .int 0, .null])), (q_1, eI G 156 (fun _ => 0))] := hD
  refine lv_aload_n hx hb dX4_init_13 rfl (lv_at hl 0 rfl) ?_
  refine lv_bipush (v := nI 64) hx hb dX4_init_14 (by decide +kernel) ?_
  refine x_newI (N := 64) hx hb k_arr hK hP hD hS hA (by decide) (by decide) (Nat.le_of_ble_eq_true rfl) (Nat.le_of_ble_eq_true rfl) dX4_init_16 (fun q_2 H hP hD hS => ?_)
  have hP : va_P (gD G) vC [(a0, .inr (4, [.int 0, .int 0, .ref q_1, .int 0, .null, .null, .null, .int 0, .int 0, .int 0, .null])), (q_1, eI G 156 (fun _ => 0)), (q_2, eI G 64 (fun _ => 0))] H := hP
  have hD : va_D A [(a0, .inr (4, [.int 0, .int 0, .ref q_1, .int 0, .null, .null, .null, .int 0, .int 0, .int 0, .null])), (q_1, eI G 156 (fun _ => 0)), (q_2, eI G 64 (fun _ => 0))] := hD
  refine va_putF (D := gD G) (ci := 4) (v := .ref q_2) (ty := (.array .int)) (C := RX4) (T := TX4) (N := 11) hx hb hts in_X4 tyX4 tyX4_ok nmX4 hown hK hP hD hS 0 rfl rfl 4 (by decide) k_f13 (fun _ h9 => h9) rfl hnm rfl (by decide +kernel) rfl rfl (Nat.le_of_ble_eq_true rfl) dX4_init_18 (fun H locs hP hD hS => ?_)
  have hP : va_P (gD G) vC [(a0, .inr (4, [.int 0, .int 0, .ref q_1, .int 0, .ref q_2, .null, .null, .int 0, .int 0, .int 0, .null])), (q_1, eI G 156 (fun _ => 0)), (q_2, eI G 64 (fun _ => 0))] H := hP
  have hD : va_D A [(a0, .inr (4, [.int 0, .int 0, .ref q_1, .int 0, .ref q_2, .null, .null, .int 0, .int 0, .int 0, .null])), (q_1, eI G 156 (fun _ => 0)), (q_2, eI G 64 (fun _ => 0))] := hD
  refine lv_aload_n hx hb dX4_init_21 rfl (lv_at hl 0 rfl) ?_
  refine lv_bipush (v := nI 12) hx hb dX4_init_22 (by decide +kernel) ?_
  refine x_newI (N := 12) hx hb k_arr hK hP hD hS hA (by decide) (by decide) (Nat.le_of_ble_eq_true rfl) (Nat.le_of_ble_eq_true rfl) dX4_init_24 (fun q_3 H hP hD hS => ?_)
  have hP : va_P (gD G) vC [(a0, .inr (4, [.int 0, .int 0, .ref q_1, .int 0, .ref q_2, .null, .null, .int 0, .int 0, .int 0, .null])), (q_1, eI G 156 (fun _ => 0)), (q_2, eI G 64 (fun _ => 0)), (q_3, eI G 12 (fun _ => 0))] H := hP
  have hD : va_D A [(a0, .inr (4, [.int 0, .int 0, .ref q_1, .int 0, .ref q_2, .null, .null, .int 0, .int 0, .int 0, .null])), (q_1, eI G 156 (fun _ => 0)), (q_2, eI G 64 (fun _ => 0)), (q_3, eI G 12 (fun _ => 0))] := hD
  refine va_putF (D := gD G) (ci := 4) (v := .ref q_3) (ty := (.array .int)) (C := RX4) (T := TX4) (N := 11) hx hb hts in_X4 tyX4 tyX4_ok nmX4 hown hK hP hD hS 0 rfl rfl 5 (by decide) k_f16 (fun _ h9 => h9) rfl hnm rfl (by decide +kernel) rfl rfl (Nat.le_of_ble_eq_true rfl) dX4_init_26 (fun H locs hP hD hS => ?_)
  have hP : va_P (gD G) vC [(a0, .inr (4, [.int 0, .int 0, .ref q_1, .int 0, .ref q_2, .ref q_3, .null, .int 0, .int 0, .int 0, .null])), (q_1, eI G 156 (fun _ => 0)), (q_2, eI G 64 (fun _ => 0)), (q_3, eI G 12 (fun _ => 0))] H := hP
  have hD : va_D A [(a0, .inr (4, [.int 0, .int 0, .ref q_1, .int 0, .ref q_2, .ref q_3, .null, .int 0, .int 0, .int 0, .null])), (q_1, eI G 156 (fun _ => 0)), (q_2, eI G 64 (fun _ => 0)), (q_3, eI G 12 (fun _ => 0))] := hD
  refine lv_aload_n hx hb dX4_init_29 rfl (lv_at hl 0 rfl) ?_
  refine lv_bipush (v := nI 12) hx hb dX4_init_30 (by decide +kernel) ?_
  refine x_newI (N := 12) hx hb k_arr hK hP hD hS hA (by decide) (by decide) (Nat.le_of_ble_eq_true rfl) (Nat.le_of_ble_eq_true rfl) dX4_init_32 (fun q_4 H hP hD hS => ?_)
  have hP : va_P (gD G) vC [(a0, .inr (4, [.int 0, .int 0, .ref q_1, .int 0, .ref q_2, .ref q_3, .null, .int 0, .int 0, .int 0, .null])), (q_1, eI G 156 (fun _ => 0)), (q_2, eI G 64 (fun _ => 0)), (q_3, eI G 12 (fun _ => 0)), (q_4, eI G 12 (fun _ => 0))] H := hP
  have hD : va_D A [(a0, .inr (4, [.int 0, .int 0, .ref q_1, .int 0, .ref q_2, .ref q_3, .null, .int 0, .int 0, .int 0, .null])), (q_1, eI G 156 (fun _ => 0)), (q_2, eI G 64 (fun _ => 0)), (q_3, eI G 12 (fun _ => 0)), (q_4, eI G 12 (fun _ => 0))] := hD
  refine va_putF (D := gD G) (ci := 4) (v := .ref q_4) (ty := (.array .int)) (C := RX4) (T := TX4) (N := 11) hx hb hts in_X4 tyX4 tyX4_ok nmX4 hown hK hP hD hS 0 rfl rfl 6 (by decide) k_f19 (fun _ h9 => h9) rfl hnm rfl (by decide +kernel) rfl rfl (Nat.le_of_ble_eq_true rfl) dX4_init_34 (fun H locs hP hD hS => ?_)
  have hP : va_P (gD G) vC [(a0, .inr (4, [.int 0, .int 0, .ref q_1, .int 0, .ref q_2, .ref q_3, .ref q_4, .int 0, .int 0, .int 0, .null])), (q_1, eI G 156 (fun _ => 0)), (q_2, eI G 64 (fun _ => 0)), (q_3, eI G 12 (fun _ => 0)), (q_4, eI G 12 (fun _ => 0))] H := hP
  have hD : va_D A [(a0, .inr (4, [.int 0, .int 0, .ref q_1, .int 0, .ref q_2, .ref q_3, .ref q_4, .int 0, .int 0, .int 0, .null])), (q_1, eI G 156 (fun _ => 0)), (q_2, eI G 64 (fun _ => 0)), (q_3, eI G 12 (fun _ => 0)), (q_4, eI G 12 (fun _ => 0))] := hD
  refine lv_aload_n hx hb dX4_init_37 rfl (lv_at hl 0 rfl) ?_
  refine lv_sipush (v := nI 144) hx hb dX4_init_38 (by decide +kernel) ?_
  refine x_newI (N := 144) hx hb k_arr hK hP hD hS hA (by decide) (by decide) (Nat.le_of_ble_eq_true rfl) (Nat.le_of_ble_eq_true rfl) dX4_init_41 (fun q_5 H hP hD hS => ?_)
  have hP : va_P (gD G) vC [(a0, .inr (4, [.int 0, .int 0, .ref q_1, .int 0, .ref q_2, .ref q_3, .ref q_4, .int 0, .int 0, .int 0, .null])), (q_1, eI G 156 (fun _ => 0)), (q_2, eI G 64 (fun _ => 0)), (q_3, eI G 12 (fun _ => 0)), (q_4, eI G 12 (fun _ => 0)), (q_5, eI G 144 (fun _ => 0))] H := hP
  have hD : va_D A [(a0, .inr (4, [.int 0, .int 0, .ref q_1, .int 0, .ref q_2, .ref q_3, .ref q_4, .int 0, .int 0, .int 0, .null])), (q_1, eI G 156 (fun _ => 0)), (q_2, eI G 64 (fun _ => 0)), (q_3, eI G 12 (fun _ => 0)), (q_4, eI G 12 (fun _ => 0)), (q_5, eI G 144 (fun _ => 0))] := hD
  refine va_putF (D := gD G) (ci := 4) (v := .ref q_5) (ty := (.array .int)) (C := RX4) (T := TX4) (N := 11) hx hb hts in_X4 tyX4 tyX4_ok nmX4 hown hK hP hD hS 0 rfl rfl 10 (by decide) k_f22 (fun _ h9 => h9) rfl hnm rfl (by decide +kernel) rfl rfl (Nat.le_of_ble_eq_true rfl) dX4_init_43 (fun H locs hP hD hS => ?_)
  have hP : va_P (gD G) vC [(a0, .inr (4, [.int 0, .int 0, .ref q_1, .int 0, .ref q_2, .ref q_3, .ref q_4, .int 0, .int 0, .int 0, .ref q_5])), (q_1, eI G 156 (fun _ => 0)), (q_2, eI G 64 (fun _ => 0)), (q_3, eI G 12 (fun _ => 0)), (q_4, eI G 12 (fun _ => 0)), (q_5, eI G 144 (fun _ => 0))] H := hP
  have hD : va_D A [(a0, .inr (4, [.int 0, .int 0, .ref q_1, .int 0, .ref q_2, .ref q_3, .ref q_4, .int 0, .int 0, .int 0, .ref q_5])), (q_1, eI G 156 (fun _ => 0)), (q_2, eI G 64 (fun _ => 0)), (q_3, eI G 12 (fun _ => 0)), (q_4, eI G 12 (fun _ => 0)), (q_5, eI G 144 (fun _ => 0))] := hD
  exact x_vret hQ hx hb hr hlk hS.2.2 dX4_init_46 ⟨hS.fr, fun k => if k = 0 then a0 else if k = 1 then q_1 else if k = 2 then q_2 else if k = 3 then q_3 else if k = 4 then q_4 else q_5, rfl, hP, hD⟩
