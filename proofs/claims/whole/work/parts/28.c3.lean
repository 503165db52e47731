abbrev rmX1_look : Room := { frames := 3, cells := 0, slots := 0, locals := 65 }
theorem qdX1_look : yX1_look.cls = RX1 ∧ yX1_look.cls ≠ "java/lang/invoke/MethodHandle" ∧ yX1_look.cls ≠ "java/lang/invoke/VarHandle" ∧ (parseMethodDescriptor yX1_look.desc).map (fun d => d.parameters.length) = some 2 := by decide +kernel
set_option maxHeartbeats 4000000 in
set_option maxRecDepth 100000 in
theorem c_X1_look {l : Launch} {G : gT} {A : Nat → Prop} {rb : Nat → Nat} {ri : Nat → Int32} {ra : Nat → Nat → Int32} {H0 : Heap} {ro : Nat → Prop} {n hn : Nat} {L T : Nat → Int32} {o : List Nat} {sa fa ta ha : Nat → Nat} {F U : Nat → Nat → Int32} {aS aB aH j : Nat} (hP : rP G rb ri ra H0) (hD : va_D A (rW G rb ri ra)) (hcr0 : crO G ro n hn L T o sa fa ta ha F U aS aB aH H0) (hro : ∀ q, ro q → ¬ A q) (hg : OK n hn L T) (ho : IsOrd (fun s => gL L s 0) n o) (hj : j < hn) : WrV G l yX1_look wsX1_look rmX1_look [.ref (rb 0), .ref (ha j), .ref aB] H0 A (fun H1 => ∃ s9 p9 r9 : Nat → Int32, (∀ k, k < (sqL L T o j).length → s9 k = nI (sq L T o j k)) ∧ (∀ k, k < (sqL L T o j).length → p9 k = (gL L (sq L T o j k) 0)) ∧ (∀ k, k < (sqL L T o j).length → r9 k = (rr L T o j k)) ∧ rP G rb (va_up ri 0 (nI (sqL L T o j).length)) (va_up (va_up (va_up ra 0 s9) 1 p9) 2 r9) H1) := by
  refine x_head (bytes := cX1_look) (maxL := 5) (ret := none) (by decide) rfl (Nat.le_of_ble_eq_true rfl) ?_
  intro p e s m below meth c ls hx hb hml hown hts hr hlk hnm hK hs0 hl Q hQ
  have hl : lv_has ls 5 [(0, .ref (rb 0)), (1, .ref (ha j)), (2, .ref aB)] := hl
  have hC : CallFix p m c cX1_look 5 s [.ref (rb 0), .ref (ha j), .ref aB].toArray wsX1_look RX1 := ⟨hx, hb, hml, hown, hts⟩
  have k_f48 := hts (.fieldLink RX1 48 "SundogLine$Reckoning" "seen" "I") (by decide +kernel)
  have in_X1 : ∀ w ∈ u_ws RX1 TX1 11, w ∈ wsX1_look := by decide +kernel
  have k_cl70 := hts (.classLink RX1 70 "SundogLine$Station") (by decide +kernel)
  have k_f9 := hts (.fieldLink RX1 9 "SundogLine$Reckoning" "numbers" "[I") (by decide +kernel)
  have k_f76 := hts (.fieldLink RX1 76 "SundogLine$Station" "number" "I") (by decide +kernel)
  have in_X2 : ∀ w ∈ u_ws RX2 TX2 8, w ∈ wsX1_look := by decide +kernel
  have k_f15 := hts (.fieldLink RX1 15 "SundogLine$Reckoning" "places" "[I") (by decide +kernel)
  have k_f79 := hts (.fieldLink RX1 79 "SundogLine$Station" "place" "I") (by decide +kernel)
  have k_f18 := hts (.fieldLink RX1 18 "SundogLine$Reckoning" "readings" "[I") (by decide +kernel)
  have hS : va_S A H0 H0 [] := va_S.rf
  have hn12 := hg.n
  have hh16 := hg.hn
  have hM12 : (sqL L T o j).length ≤ n := sqM_le ho
  refine lv_aload_n hx hb dX1_look_0 rfl (lv_at hl 0 rfl) ?_
  refine lv_iconst (v := nI 0) hx hb dX1_look_1 (by decide +kernel) ?_
  refine va_put (D := gD G) (ci := 1) (v := .int (nI 0)) (ty := .int) (C := RX1) (T := TX1) (N := 11) hx hb hts in_X1 tyX1 tyX1_ok nmX1 hown hK hP hD hS 0 rfl rfl 0 (by decide) k_f48 (fun _ h9 => h9) rfl (by decide +kernel) rfl rfl (Nat.le_of_ble_eq_true rfl) dX1_look_2 (fun H locs hP hD hS => ?_)
  have hP : rP G rb (va_up ri 0 (nI 0)) ra H := hP
  have hD : va_D A (rW G rb (va_up ri 0 (nI 0)) ra) := hD.same rfl
  refine lv_iconst (v := nI 0) hx hb dX1_look_5 (by decide +kernel) ?_
  refine lv_istore_n (lv' := [(3, .int (nI 0)), (0, .ref (rb 0)), (1, .ref (ha j)), (2, .ref aB)]) hx hb dX1_look_6 rfl hl (by decide) rfl (fun ls hl => ?_)
  have hP : rP G rb (va_up ri 0 (nI (sqT L T o j 0).length)) (va_up (va_up (va_up ra 0 (ra 0)) 1 (ra 1)) 2 (ra 2)) H := hP
  have hD : va_D A (rW G rb (va_up ri 0 (nI (sqT L T o j 0).length)) (va_up (va_up (va_up ra 0 (ra 0)) 1 (ra 1)) 2 (ra 2))) := hD.same rfl
  have loop_1 : ∀ (fu : Nat) (x : Nat) (s9 : Nat → Int32) (p9 : Nat → Int32) (r9 : Nat → Int32) (H : Heap) (locs : List Loc) (ls : Array Slot), n - x < fu → (x ≤ n) → (∀ k, k < (sqT L T o j x).length → s9 k = nI ((sqT L T o j x).getD k 0)) → (∀ k, k < (sqT L T o j x).length → p9 k = gL L ((sqT L T o j x).getD k 0) 0) → (∀ k, k < (sqT L T o j x).length → r9 k = rdg L T j ((sqT L T o j x).getD k 0)) → (va_P (gD G) vC (rW G rb (va_up ri 0 (nI (sqT L T o j x).length)) (va_up (va_up (va_up ra 0 s9) 1 p9) 2 r9)) H) → (va_S A H0 H locs) → lv_has ls 5 [(0, .ref (rb 0)), (1, .ref (ha j)), (2, .ref aB), (3, .int (nI x))] → W p l e rmX1_look s m [.ref (rb 0), .ref (ha j), .ref aB].toArray below meth c H locs 0 0 Q (F0 m 7 ls []) := by
    intro fu
    induction fu with
    | zero => intro x s9 p9 r9 H locs ls hms hxn hsA hpA hrA hP hS hl; exact absurd hms (Nat.not_lt_zero _)
    | succ fu ih_1 =>
      intro x s9 p9 r9 H locs ls hms hxn hsA hpA hrA hP hS hl
      have hD : va_D A (rW G rb (va_up ri 0 (nI (sqT L T o j x).length)) (va_up (va_up (va_up ra 0 s9) 1 p9) 2 r9)) := hD.same rfl
      have hTl := sqT_len L T o j x
      refine lv_iload_n hx hb dX1_look_7 rfl (lv_at hl 3 rfl) ?_
      refine lv_aload_n hx hb dX1_look_8 rfl (lv_at hl 2 rfl) ?_
      refine x_rd (va_runV (As := []) (rest := [.int (nI x)]) hC (c_size ((hcr0.at hS hro).lB)) (cwV 0 hts gX1_look_Jx4a65c_size_8abf5 rfl rfl rfl qdJx4a65c_size_8abf5 ⟨Nat.le_of_ble_eq_true rfl, Nat.le_of_ble_eq_true rfl⟩) (x_preV hK (alR_recv hK ((hcr0.at hS hro).lB))) rfl rfl hl.1 rfl (lv_room (Nat.le_of_ble_eq_true rfl)) dX1_look_9 ⟨Nat.le_of_ble_eq_true rfl, Nat.le_of_ble_eq_true rfl⟩) ?_
      refine W.eq (g2 := F0 m 12 ls [.int (nI n), .int (nI x)]) rfl ?_
      refine x_icmp_ge (tgt := 102) hx hb (by omega) (by omega) dX1_look_12 (by decide) (fun c_2 => ?_) (fun c_2 => ?_)
      · have hTe := sqT_all L T o j (x := x) (show o.length ≤ x by have q := ho.2.2; omega)
        rw [hTe] at hsA hpA hrA
        have hP : rP G rb (va_up ri 0 (nI (sqL L T o j).length)) (va_up (va_up (va_up ra 0 s9) 1 p9) 2 r9) H := by rw [← hTe]; exact hP
        have hD : va_D A (rW G rb (va_up ri 0 (nI (sqL L T o j).length)) (va_up (va_up (va_up ra 0 s9) 1 p9) 2 r9)) := hD.same rfl
        exact x_vret hQ hx hb hr hlk hS.2.2 dX1_look_102 (⟨hS.fr, s9, p9, r9, hsA, hpA, hrA, hP⟩)
      · refine lv_aload_n hx hb dX1_look_15 rfl (lv_at hl 0 rfl) ?_
        refine x_get (T := TX1) (N := 11) (v := .int (nI ((sqT L T o j x).length))) hx hb hts in_X1 hown hK (hP 0 _ rfl) rfl 0 (by decide) k_f48 (fun _ h9 => h9) (rfl) dX1_look_16 ?_
        refine lv_bipush (v := nI 12) hx hb dX1_look_19 (by decide +kernel) ?_
        refine x_icmp_ge (tgt := 102) hx hb (by omega) (by omega) dX1_look_21 (by decide) (fun c_3 => ?_) (fun c_3 => ?_)
        · exact absurd c_3 (by omega)
        · have hox := (ho.gt (show x < n by omega)).1
          have hst : (o.getD x 0) < n := (ho.gt (show x < n by omega)).2
          have hTs := sqT_succ L T o j hox
          refine lv_aload_n hx hb dX1_look_24 rfl (lv_at hl 2 rfl) ?_
          refine lv_iload_n hx hb dX1_look_25 rfl (lv_at hl 3 rfl) ?_
          refine x_rd (va_runV (As := [.int (nI x)]) (rest := []) hC (c_get ((hcr0.at hS hro).lB) (by omega)) (cwV 1 hts gX1_look_Jx4a65c_get_915e3 rfl rfl rfl qdJx4a65c_get_915e3 ⟨Nat.le_of_ble_eq_true rfl, Nat.le_of_ble_eq_true rfl⟩) (x_preV hK (alR_recv hK ((hcr0.at hS hro).lB))) rfl rfl hl.1 rfl (lv_room (Nat.le_of_ble_eq_true rfl)) dX1_look_26 ⟨Nat.le_of_ble_eq_true rfl, Nat.le_of_ble_eq_true rfl⟩) ?_
          refine W.eq (g2 := F0 m 29 ls [.ref (sa (o.getD x 0))]) rfl ?_
          refine x_cast hx hb hown k_cl70 hK (((hcr0.at hS hro).st (show (o.getD x 0) < n by omega)).1) rfl dX1_look_29 ?_
          refine lv_astore (lv' := [(4, .ref (sa (o.getD x 0))), (0, .ref (rb 0)), (1, .ref (ha j)), (2, .ref aB), (3, .int (nI x))]) hx hb dX1_look_32 hl (by decide) rfl (fun ls hl => ?_)
          refine lv_aload hx hb dX1_look_34 (lv_at hl 0 rfl) ?_
          refine lv_aload_n hx hb dX1_look_36 rfl (lv_at hl 2 rfl) ?_
          refine x_rd (va_runV (As := [.ref (ha j)]) (rest := []) hC (c_X2_sees ((hcr0.at hS hro).st (show (o.getD x 0) < n by omega)) ((hcr0.at hS hro).hal (show j < hn by omega)) (hg.2.1 _ (show (o.getD x 0) < n by omega)) (hg.2.2.1 _ (show j < hn by omega))) (cwV 1 hts gX1_look_X2_sees rfl rfl rfl qdX2_sees ⟨Nat.le_of_ble_eq_true rfl, Nat.le_of_ble_eq_true rfl⟩) (x_preV hK (x_recv hK (((hcr0.at hS hro).st (show (o.getD x 0) < n by omega)).1) rfl)) rfl rfl hl.1 rfl (lv_room (Nat.le_of_ble_eq_true rfl)) dX1_look_37 ⟨Nat.le_of_ble_eq_true rfl, Nat.le_of_ble_eq_true rfl⟩) ?_
          refine W.eq (g2 := F0 m 40 ls [.int (bI (see L T j (o.getD x 0)))]) rfl ?_
          refine x_if_eqB (tgt := 96) hx hb dX1_look_40 (by decide) (fun c_4 => ?_) (fun c_4 => ?_)
          · refine lv_iinc (v := nI (x + 1)) (lv' := [(3, .int (nI (x + 1))), (4, .ref (sa (o.getD x 0))), (0, .ref (rb 0)), (1, .ref (ha j)), (2, .ref aB)]) hx hb dX1_look_96 hl (k := 4) rfl (nI_incn _) (by decide) rfl (fun ls hl => ?_)
            refine lv_goto (tgt := 7) hx hb dX1_look_99 (by decide) ?_
            have hP : rP G rb (va_up ri 0 (nI (sqT L T o j (x + 1)).length)) (va_up (va_up (va_up ra 0 s9) 1 p9) 2 r9) H := by rw [hTs, if_neg (show ¬ see L T j (o.getD x 0) = true by rw [show see L T j (o.getD x 0) = false from c_4]; decide), List.append_nil]; exact hP
            have hD : va_D A (rW G rb (va_up ri 0 (nI (sqT L T o j (x + 1)).length)) (va_up (va_up (va_up ra 0 s9) 1 p9) 2 r9)) := hD.same rfl
            exact ih_1 (x + 1) s9 p9 r9 _ _ ls (by omega) (by omega) (by rw [hTs, if_neg (show ¬ see L T j (o.getD x 0) = true by rw [show see L T j (o.getD x 0) = false from c_4]; decide), List.append_nil]; exact hsA) (by rw [hTs, if_neg (show ¬ see L T j (o.getD x 0) = true by rw [show see L T j (o.getD x 0) = false from c_4]; decide), List.append_nil]; exact hpA) (by rw [hTs, if_neg (show ¬ see L T j (o.getD x 0) = true by rw [show see L T j (o.getD x 0) = false from c_4]; decide), List.append_nil]; exact hrA) (hP) (hS) (lv_sub hl [2, 3, 4, 0] rfl)
          · refine lv_aload_n hx hb dX1_look_43 rfl (lv_at hl 1 rfl) ?_
            refine x_get (T := TX1) (N := 11) (v := .ref (rb 1)) hx hb hts in_X1 hown hK (hP 0 _ rfl) rfl 5 (by decide) k_f9 (fun _ h9 => h9) (rfl) dX1_look_44 ?_
            refine lv_aload_n hx hb dX1_look_47 rfl (lv_at hl 1 rfl) ?_
            refine x_get (T := TX1) (N := 11) (v := .int (nI ((sqT L T o j x).length))) hx hb hts in_X1 hown hK (hP 0 _ rfl) rfl 0 (by decide) k_f48 (fun _ h9 => h9) (rfl) dX1_look_48 ?_
            refine lv_aload hx hb dX1_look_51 (lv_at hl 0 rfl) ?_
            refine x_get (T := TX2) (N := 8) (v := .int (nI (o.getD x 0))) hx hb hts in_X2 hown hK (((hcr0.at hS hro).st (show (o.getD x 0) < n by omega)).1) rfl 0 (by decide) k_f76 (fun _ h9 => h9) (rfl) dX1_look_53 ?_
            refine x_iast hx hb hK hP hD hS 1 rfl (by omega) (by decide) dX1_look_56 (fun H locs hP hD hS => ?_)
            have hP : rP G rb (va_up ri 0 (nI (sqT L T o j x).length)) (va_up (va_up (va_up ra 0 (upd s9 ((sqT L T o j x).length) (nI (o.getD x 0)))) 1 p9) 2 r9) H := hP
            have hD : va_D A (rW G rb (va_up ri 0 (nI (sqT L T o j x).length)) (va_up (va_up (va_up ra 0 (upd s9 ((sqT L T o j x).length) (nI (o.getD x 0)))) 1 p9) 2 r9)) := hD.same rfl
            refine lv_aload_n hx hb dX1_look_57 rfl (lv_at hl 1 rfl) ?_
            refine x_get (T := TX1) (N := 11) (v := .ref (rb 2)) hx hb hts in_X1 hown hK (hP 0 _ rfl) rfl 6 (by decide) k_f15 (fun _ h9 => h9) (rfl) dX1_look_58 ?_
            refine lv_aload_n hx hb dX1_look_61 rfl (lv_at hl 1 rfl) ?_
            refine x_get (T := TX1) (N := 11) (v := .int (nI ((sqT L T o j x).length))) hx hb hts in_X1 hown hK (hP 0 _ rfl) rfl 0 (by decide) k_f48 (fun _ h9 => h9) (rfl) dX1_look_62 ?_
            refine lv_aload hx hb dX1_look_65 (lv_at hl 0 rfl) ?_
            refine x_get (T := TX2) (N := 8) (v := .int (gL L (o.getD x 0) 0)) hx hb hts in_X2 hown hK (((hcr0.at hS hro).st (show (o.getD x 0) < n by omega)).1) rfl 1 (by decide) k_f79 (fun _ h9 => h9) (rfl) dX1_look_67 ?_
            refine x_iast hx hb hK hP hD hS 2 rfl (by omega) (by decide) dX1_look_70 (fun H locs hP hD hS => ?_)
            have hP : rP G rb (va_up ri 0 (nI (sqT L T o j x).length)) (va_up (va_up (va_up ra 0 (upd s9 ((sqT L T o j x).length) (nI (o.getD x 0)))) 1 (upd p9 ((sqT L T o j x).length) (gL L (o.getD x 0) 0))) 2 r9) H := hP
            have hD : va_D A (rW G rb (va_up ri 0 (nI (sqT L T o j x).length)) (va_up (va_up (va_up ra 0 (upd s9 ((sqT L T o j x).length) (nI (o.getD x 0)))) 1 (upd p9 ((sqT L T o j x).length) (gL L (o.getD x 0) 0))) 2 r9)) := hD.same rfl
            refine lv_aload_n hx hb dX1_look_71 rfl (lv_at hl 1 rfl) ?_
            refine x_get (T := TX1) (N := 11) (v := .ref (rb 3)) hx hb hts in_X1 hown hK (hP 0 _ rfl) rfl 7 (by decide) k_f18 (fun _ h9 => h9) (rfl) dX1_look_72 ?_
            refine lv_aload_n hx hb dX1_look_75 rfl (lv_at hl 1 rfl) ?_
            refine x_get (T := TX1) (N := 11) (v := .int (nI ((sqT L T o j x).length))) hx hb hts in_X1 hown hK (hP 0 _ rfl) rfl 0 (by decide) k_f48 (fun _ h9 => h9) (rfl) dX1_look_76 ?_
            refine lv_aload hx hb dX1_look_79 (lv_at hl 0 rfl) ?_
            refine lv_aload_n hx hb dX1_look_81 rfl (lv_at hl 2 rfl) ?_
            refine x_rd (va_runV (As := [.ref (ha j)]) (rest := [.int (nI ((sqT L T o j x).length)), .ref (rb 3)]) hC (c_X2_readingOf ((hcr0.at hS hro).st (show (o.getD x 0) < n by omega)) ((hcr0.at hS hro).hal (show j < hn by omega)) (hg.2.1 _ (show (o.getD x 0) < n by omega)) (hg.2.2.1 _ (show j < hn by omega))) (cwV 1 hts gX1_look_X2_readingOf rfl rfl rfl qdX2_readingOf ⟨Nat.le_of_ble_eq_true rfl, Nat.le_of_ble_eq_true rfl⟩) (x_preV hK (x_recv hK (((hcr0.at hS hro).st (show (o.getD x 0) < n by omega)).1) rfl)) rfl rfl hl.1 rfl (lv_room (Nat.le_of_ble_eq_true rfl)) dX1_look_82 ⟨Nat.le_of_ble_eq_true rfl, Nat.le_of_ble_eq_true rfl⟩) ?_
            refine W.eq (g2 := F0 m 85 ls [.int (rdg L T j (o.getD x 0)), .int (nI ((sqT L T o j x).length)), .ref (rb 3)]) rfl ?_
            refine x_iast hx hb hK hP hD hS 3 rfl (by omega) (by decide) dX1_look_85 (fun H locs hP hD hS => ?_)
            have hP : rP G rb (va_up ri 0 (nI (sqT L T o j x).length)) (va_up (va_up (va_up ra 0 (upd s9 ((sqT L T o j x).length) (nI (o.getD x 0)))) 1 (upd p9 ((sqT L T o j x).length) (gL L (o.getD x 0) 0))) 2 (upd r9 ((sqT L T o j x).length) (rdg L T j (o.getD x 0)))) H := hP
            have hD : va_D A (rW G rb (va_up ri 0 (nI (sqT L T o j x).length)) (va_up (va_up (va_up ra 0 (upd s9 ((sqT L T o j x).length) (nI (o.getD x 0)))) 1 (upd p9 ((sqT L T o j x).length) (gL L (o.getD x 0) 0))) 2 (upd r9 ((sqT L T o j x).length) (rdg L T j (o.getD x 0))))) := hD.same rfl
            refine lv_aload_n hx hb dX1_look_86 rfl (lv_at hl 1 rfl) ?_
            refine lv_dup hx hb dX1_look_87 rfl ?_
            refine x_get (T := TX1) (N := 11) (v := .int (nI ((sqT L T o j x).length))) hx hb hts in_X1 hown hK (hP 0 _ rfl) rfl 0 (by decide) k_f48 (fun _ h9 => h9) (rfl) dX1_look_88 ?_
            refine lv_iconst (v := nI 1) hx hb dX1_look_91 (by decide +kernel) ?_
            refine x_iaddN hx hb dX1_look_92 ?_
            refine va_put (D := gD G) (ci := 1) (v := .int (nI (((sqT L T o j x).length) + 1))) (ty := .int) (C := RX1) (T := TX1) (N := 11) hx hb hts in_X1 tyX1 tyX1_ok nmX1 hown hK hP hD hS 0 rfl rfl 0 (by decide) k_f48 (fun _ h9 => h9) rfl (by decide +kernel) rfl rfl (Nat.le_of_ble_eq_true rfl) dX1_look_93 (fun H locs hP hD hS => ?_)
            have hP : rP G rb (va_up ri 0 (nI (((sqT L T o j x).length) + 1))) (va_up (va_up (va_up ra 0 (upd s9 ((sqT L T o j x).length) (nI (o.getD x 0)))) 1 (upd p9 ((sqT L T o j x).length) (gL L (o.getD x 0) 0))) 2 (upd r9 ((sqT L T o j x).length) (rdg L T j (o.getD x 0)))) H := hP
            have hD : va_D A (rW G rb (va_up ri 0 (nI (((sqT L T o j x).length) + 1))) (va_up (va_up (va_up ra 0 (upd s9 ((sqT L T o j x).length) (nI (o.getD x 0)))) 1 (upd p9 ((sqT L T o j x).length) (gL L (o.getD x 0) 0))) 2 (upd r9 ((sqT L T o j x).length) (rdg L T j (o.getD x 0))))) := hD.same rfl
            refine lv_iinc (v := nI (x + 1)) (lv' := [(3, .int (nI (x + 1))), (4, .ref (sa (o.getD x 0))), (0, .ref (rb 0)), (1, .ref (ha j)), (2, .ref aB)]) hx hb dX1_look_96 hl (k := 4) rfl (nI_incn _) (by decide) rfl (fun ls hl => ?_)
            refine lv_goto (tgt := 7) hx hb dX1_look_99 (by decide) ?_
            have hP : rP G rb (va_up ri 0 (nI (sqT L T o j (x + 1)).length)) (va_up (va_up (va_up ra 0 (upd s9 ((sqT L T o j x).length) (nI (o.getD x 0)))) 1 (upd p9 ((sqT L T o j x).length) (gL L (o.getD x 0) 0))) 2 (upd r9 ((sqT L T o j x).length) (rdg L T j (o.getD x 0)))) H := by rw [hTs, if_pos c_4, List.length_append]; exact hP
            have hD : va_D A (rW G rb (va_up ri 0 (nI (sqT L T o j (x + 1)).length)) (va_up (va_up (va_up ra 0 (upd s9 ((sqT L T o j x).length) (nI (o.getD x 0)))) 1 (upd p9 ((sqT L T o j x).length) (gL L (o.getD x 0) 0))) 2 (upd r9 ((sqT L T o j x).length) (rdg L T j (o.getD x 0))))) := hD.same rfl
            exact ih_1 (x + 1) (upd s9 ((sqT L T o j x).length) (nI (o.getD x 0))) (upd p9 ((sqT L T o j x).length) (gL L (o.getD x 0) 0)) (upd r9 ((sqT L T o j x).length) (rdg L T j (o.getD x 0))) _ _ ls (by omega) (by omega) (by rw [hTs, if_pos c_4]; exact app_get nI hsA) (by rw [hTs, if_pos c_4]; exact app_get (fun z => gL L z 0) hpA) (by rw [hTs, if_pos c_4]; exact app_get (rdg L T j) hrA) (hP) (hS) (lv_sub hl [2, 3, 4, 0] rfl)
  exact loop_1 _ 0 (ra 0) (ra 1) (ra 2) _ _ ls (Nat.lt_succ_self _) (Nat.zero_le _) (fun k hk => absurd hk (Nat.not_lt_zero _)) (fun k hk => absurd hk (Nat.not_lt_zero _)) (fun k hk => absurd hk (Nat.not_lt_zero _)) (hP) (hS) (lv_sub hl [1, 2, 3, 0] rfl)
abbrev rmX1_middleSlope : Room := { frames := 1, cells := 0, slots := 0, locals := 24 }
theorem qdX1_middleSlope : yX1_middleSlope.cls = RX1 ∧ yX1_middleSlope.cls ≠ "java/lang/invoke/MethodHandle" ∧ yX1_middleSlope.cls ≠ "java/lang/invoke/VarHandle" ∧ (parseMethodDescriptor yX1_middleSlope.desc).map (fun d => d.parameters.length) = some 0 := by decide +kernel
set_option maxHeartbeats 4000000 in
set_option maxRecDepth 100000 in
theorem c_X1_middleSlope {l : Launch} {G : gT} {A : Nat → Prop} {rb : Nat → Nat} {ri : Nat → Int32} {ra : Nat → Nat → Int32} {H0 : Heap} {n hn j : Nat} {L T : Nat → Int32} {o : List Nat} (hP : rP G rb ri ra H0) (hD : va_D A (rW G rb ri ra)) (hg : OK n hn L T) (ho : IsOrd (fun s => gL L s 0) n o) (hM : ri 0 = nI (sqL L T o j).length) (hsA : ∀ k, k < (sqL L T o j).length → ra 0 k = nI (sq L T o j k)) (hpA : ∀ k, k < (sqL L T o j).length → ra 1 k = (gL L (sq L T o j k) 0)) (hrA : ∀ k, k < (sqL L T o j).length → ra 2 k = (rr L T o j k)) (hM2 : 2 ≤ (sqL L T o j).length) : WnI G l yX1_middleSlope wsX1_middleSlope rmX1_middleSlope [.ref (rb 0)] H0 A (fun r H1 => r = midL (allS (sv L T o j) (sqL L T o j).length (sqL L T o j).length) ∧ ∃ v, rP G rb ri (va_up ra 5 v) H1) := by
  refine x_headn (bytes := cX1_middleSlope) (maxL := 5) (ret := (some .int)) (by decide) rfl (Nat.le_of_ble_eq_true rfl) ?_
  intro p e s m below meth c ls hx hb hml hown hts hr hlk hnm hK hs0 hl Q hQ hN
  have hl : lv_has ls 5 [(0, .ref (rb 0))] := hl
  have hC : CallFix p m c cX1_middleSlope 5 s [.ref (rb 0)].toArray wsX1_middleSlope RX1 := ⟨hx, hb, hml, hown, hts⟩
  have k_f48 := hts (.fieldLink RX1 48 "SundogLine$Reckoning" "seen" "I") (by decide +kernel)
  have in_X1 : ∀ w ∈ u_ws RX1 TX1 11, w ∈ wsX1_middleSlope := by decide +kernel
  have k_f27 := hts (.fieldLink RX1 27 "SundogLine$Reckoning" "slopes" "[I") (by decide +kernel)
  have k_nX3 := hts (.initialized RX3) (by decide +kernel)
  have k_sX3m := hts (.static yX3_middle) (by decide +kernel)
  have k_f15 := hts (.fieldLink RX1 15 "SundogLine$Reckoning" "places" "[I") (by decide +kernel)
  have k_f18 := hts (.fieldLink RX1 18 "SundogLine$Reckoning" "readings" "[I") (by decide +kernel)
  have hS : va_S A H0 H0 [] := va_S.rf
  have hn12 := hg.n
  have hh16 := hg.hn
  have hM12 : (sqL L T o j).length ≤ n := sqM_le ho
  refine lv_iconst (v := nI 0) hx hb dX1_middleSlope_0 (by decide +kernel) ?_
  refine lv_istore_n (lv' := [(1, .int (nI 0)), (0, .ref (rb 0))]) hx hb dX1_middleSlope_1 rfl hl (by decide) rfl (fun ls hl => ?_)
  refine lv_iconst (v := nI 1) hx hb dX1_middleSlope_2 (by decide +kernel) ?_
  refine lv_istore_n (lv' := [(2, .int (nI 1)), (1, .int (nI 0)), (0, .ref (rb 0))]) hx hb dX1_middleSlope_3 rfl hl (by decide) rfl (fun ls hl => ?_)
  have hP : rP G rb ri (va_up ra 5 (ra 5)) H0 := hP
  have hD : va_D A (rW G rb ri (va_up ra 5 (ra 5))) := hD.same rfl
  have loop_1 : ∀ (fu : Nat) (bb : Nat) (v : Nat → Int32) (H : Heap) (locs : List Loc) (ls : Array Slot), (sqL L T o j).length - bb < fu → (1 ≤ bb) → (bb ≤ (sqL L T o j).length) → (ls' v (colS (sv L T o j) bb).length = (colS (sv L T o j) bb)) → (va_P (gD G) vC (rW G rb ri (va_up ra 5 v)) H) → (va_S A H0 H locs) → lv_has ls 5 [(0, .ref (rb 0)), (1, .int (nI ((colS (sv L T o j) bb).length))), (2, .int (nI bb))] → W p l e rmX1_middleSlope s m [.ref (rb 0)].toArray below meth c H locs 0 0 Q (F0 m 4 ls []) := by
    intro fu
    induction fu with
    | zero => intro bb v H locs ls hms hb1 hbM hv hP hS hl; exact absurd hms (Nat.not_lt_zero _)
    | succ fu ih_1 =>
      intro bb v H locs ls hms hb1 hbM hv hP hS hl
      have hD : va_D A (rW G rb ri (va_up ra 5 v)) := hD.same rfl
      refine lv_iload_n hx hb dX1_middleSlope_4 rfl (lv_at hl 2 rfl) ?_
      refine lv_aload_n hx hb dX1_middleSlope_5 rfl (lv_at hl 0 rfl) ?_
      refine x_get (T := TX1) (N := 11) (v := .int (nI ((sqL L T o j).length))) hx hb hts in_X1 hown hK (hP 0 _ rfl) rfl 0 (by decide) k_f48 (fun _ h9 => h9) (congrArg (fun z => some (Value.int z)) hM) dX1_middleSlope_6 ?_
      refine x_icmp_ge (tgt := 88) hx hb (by omega) (by omega) dX1_middleSlope_9 (by decide) (fun c_2 => ?_) (fun c_2 => ?_)
      · have hbM : bb = (sqL L T o j).length := by omega
        rw [hbM] at hv hl
        have hcl := (colS_perm (sv L T o j) (sqL L T o j).length).length_eq
        have hcp := allS_pos (sv L T o j) hM2
        have hct : (colS (sv L T o j) (sqL L T o j).length).length ≤ 66 := by rw [colS_len]; exact tri_12 _ (by omega)
        refine lv_aload_n hx hb dX1_middleSlope_88 rfl (lv_at hl 0 rfl) ?_
        refine x_get (T := TX1) (N := 11) (v := .ref (rb 6)) hx hb hts in_X1 hown hK (hP 0 _ rfl) rfl 10 (by decide) k_f27 (fun _ h9 => h9) (rfl) dX1_middleSlope_89 ?_
        refine lv_iload_n hx hb dX1_middleSlope_92 rfl (lv_at hl 1 rfl) ?_
        refine x_runi (va_runSN (As := [.ref (rb 6), .int (nI ((colS (sv L T o j) (sqL L T o j).length).length))]) (rest := []) hC (c_X3_middle (hP 6 _ rfl) (by omega) (by omega) (by decide)) ⟨va_cnB 2 hts gX1_middleSlope_X3_middle_n86 rfl rfl rfl hN k_nX3 qdX3_middle.2 ⟨Nat.le_of_ble_eq_true rfl, Nat.le_of_ble_eq_true rfl⟩, k_sX3m, trivial⟩ (x_preS hK) rfl rfl hl.1 rfl (lv_room (Nat.le_of_ble_eq_true rfl)) dX1_middleSlope_93 ⟨Nat.le_of_ble_eq_true rfl, Nat.le_of_ble_eq_true rfl⟩) hS (fun q9 e9 => by rw [e9]; exact hD.2 6 _ rfl) (fun r_3 H locs hfr hΦ hS => ?_)
        obtain ⟨er_3, v_4, h9⟩ := hΦ
        have hP : rP G rb ri (va_up ra 5 v_4) H := cell_call hP hD (k := 6) rfl hfr h9
        have hD : va_D A (rW G rb ri (va_up ra 5 v_4)) := hD.same rfl
        exact x_iret hQ hx hb hr rfl hlk hS.2.2 dX1_middleSlope_96 (⟨hS.fr, er_3.trans (by show midL (ls' v _) = _; rw [hv]; exact midL_perm (colS_perm (sv L T o j) (sqL L T o j).length)), v_4, hP⟩)
      · refine lv_iconst (v := nI 0) hx hb dX1_middleSlope_12 (by decide +kernel) ?_
        refine lv_istore_n (lv' := [(3, .int (nI 0)), (0, .ref (rb 0)), (1, .int (nI ((colS (sv L T o j) bb).length))), (2, .int (nI bb))]) hx hb dX1_middleSlope_13 rfl hl (by decide) rfl (fun ls hl => ?_)
        have hl : lv_has ls 5 [(3, .int (nI 0)), (0, .ref (rb 0)), (1, .int (nI ((colS (sv L T o j) bb ++ colR (sv L T o j) bb 0).length))), (2, .int (nI bb))] := by
          have e9 : (colS (sv L T o j) bb ++ colR (sv L T o j) bb 0).length = (colS (sv L T o j) bb).length := by rw [colR, List.append_nil]
          rw [e9]; exact hl
        have loop_5 : ∀ (fu : Nat) (aa : Nat) (v : Nat → Int32) (H : Heap) (locs : List Loc) (ls : Array Slot), bb - aa < fu → (aa ≤ bb) → (ls' v (colS (sv L T o j) bb ++ colR (sv L T o j) bb aa).length = (colS (sv L T o j) bb ++ colR (sv L T o j) bb aa)) → (va_P (gD G) vC (rW G rb ri (va_up ra 5 v)) H) → (va_S A H0 H locs) → lv_has ls 5 [(0, .ref (rb 0)), (1, .int (nI ((colS (sv L T o j) bb ++ colR (sv L T o j) bb aa).length))), (2, .int (nI bb)), (3, .int (nI aa))] → W p l e rmX1_middleSlope s m [.ref (rb 0)].toArray below meth c H locs 0 0 Q (F0 m 14 ls []) := by
          intro fu
          induction fu with
          | zero => intro aa v H locs ls hms haa hv hP hS hl; exact absurd hms (Nat.not_lt_zero _)
          | succ fu ih_5 =>
            intro aa v H locs ls hms haa hv hP hS hl
            have hD : va_D A (rW G rb ri (va_up ra 5 v)) := hD.same rfl
            refine lv_iload_n hx hb dX1_middleSlope_14 rfl (lv_at hl 3 rfl) ?_
            refine lv_iload_n hx hb dX1_middleSlope_15 rfl (lv_at hl 2 rfl) ?_
            refine x_icmp_ge (tgt := 82) hx hb (by omega) (by omega) dX1_middleSlope_16 (by decide) (fun c_6 => ?_) (fun c_6 => ?_)
            · have hl : lv_has ls 5 [(0, .ref (rb 0)), (1, .int (nI ((colS (sv L T o j) (bb + 1)).length))), (2, .int (nI bb)), (3, .int (nI aa))] := by
                have e9 : (colS (sv L T o j) (bb + 1)).length = (colS (sv L T o j) bb ++ colR (sv L T o j) bb aa).length := by show (colS (sv L T o j) bb ++ colR (sv L T o j) bb bb).length = _; rw [show aa = bb by omega]
                rw [e9]; exact hl
              refine lv_iinc (v := nI (bb + 1)) (lv' := [(2, .int (nI (bb + 1))), (0, .ref (rb 0)), (1, .int (nI ((colS (sv L T o j) (bb + 1)).length))), (3, .int (nI aa))]) hx hb dX1_middleSlope_82 hl (k := 2) rfl (nI_incn _) (by decide) rfl (fun ls hl => ?_)
              refine lv_goto (tgt := 4) hx hb dX1_middleSlope_85 (by decide) ?_
              exact ih_1 (bb + 1) v _ _ ls (by omega) (by omega) (by omega) (by have e : aa = bb := (by omega); rw [e] at hv; exact hv) (hP) (hS) (lv_sub hl [1, 2, 0] rfl)
            · have hbl : bb < (sqL L T o j).length := by omega
              have hal : aa < (sqL L T o j).length := by omega
              have hqb : (sq L T o j bb) < n := sq_lt ho hbl
              have hqa : (sq L T o j aa) < n := sq_lt ho hal
              have hlen : (colS (sv L T o j) bb ++ colR (sv L T o j) bb aa).length < 66 := by rw [List.length_append, colS_len, colR_len]; exact tri_66 bb (by omega) aa (by omega)
              refine lv_aload_n hx hb dX1_middleSlope_19 rfl (lv_at hl 0 rfl) ?_
              refine x_get (T := TX1) (N := 11) (v := .ref (rb 2)) hx hb hts in_X1 hown hK (hP 0 _ rfl) rfl 6 (by decide) k_f15 (fun _ h9 => h9) (rfl) dX1_middleSlope_20 ?_
              refine lv_iload_n hx hb dX1_middleSlope_23 rfl (lv_at hl 2 rfl) ?_
              refine x_ialdN hx hb hK (hP 2 _ rfl) (by omega) (by decide) dX1_middleSlope_24 ?_
              refine W.eq (g2 := F0 m 25 ls [.int ((gL L (sq L T o j bb) 0))]) (congrArg (fun z => F0 m 25 ls (.int z :: [])) (hpA bb hbl)) ?_
              refine lv_aload_n hx hb dX1_middleSlope_25 rfl (lv_at hl 0 rfl) ?_
              refine x_get (T := TX1) (N := 11) (v := .ref (rb 2)) hx hb hts in_X1 hown hK (hP 0 _ rfl) rfl 6 (by decide) k_f15 (fun _ h9 => h9) (rfl) dX1_middleSlope_26 ?_
              refine lv_iload_n hx hb dX1_middleSlope_29 rfl (lv_at hl 3 rfl) ?_
              refine x_ialdN hx hb hK (hP 2 _ rfl) (by omega) (by decide) dX1_middleSlope_30 ?_
              refine W.eq (g2 := F0 m 31 ls [.int ((gL L (sq L T o j aa) 0)), .int ((gL L (sq L T o j bb) 0))]) (congrArg (fun z => F0 m 31 ls (.int z :: [.int ((gL L (sq L T o j bb) 0))])) (hpA aa hal)) ?_
              refine lv_isub hx hb dX1_middleSlope_31 ?_
              refine lv_istore (lv' := [(4, .int ((gL L (sq L T o j bb) 0) - (gL L (sq L T o j aa) 0))), (0, .ref (rb 0)), (1, .int (nI ((colS (sv L T o j) bb ++ colR (sv L T o j) bb aa).length))), (2, .int (nI bb)), (3, .int (nI aa))]) hx hb dX1_middleSlope_32 hl (by decide) rfl (fun ls hl => ?_)
              refine lv_iload hx hb dX1_middleSlope_34 (lv_at hl 0 rfl) ?_
              refine lv_if_le (tgt := 76) hx hb dX1_middleSlope_36 (by decide) (fun c_7 => ?_) (fun c_7 => ?_)
              · exact absurd c_7 (pl_pos (hg.2.1 _ hqa).1 (hg.2.1 _ hqb).1 (sq_asc (P := fun s => gL L s 0) ho (by omega) hbl))
              · refine lv_iload_n hx hb dX1_middleSlope_39 rfl (lv_at hl 2 rfl) ?_
                refine lv_aload_n hx hb dX1_middleSlope_40 rfl (lv_at hl 1 rfl) ?_
                refine x_get (T := TX1) (N := 11) (v := .ref (rb 6)) hx hb hts in_X1 hown hK (hP 0 _ rfl) rfl 10 (by decide) k_f27 (fun _ h9 => h9) (rfl) dX1_middleSlope_41 ?_
                refine x_alen (t0 := 0) hx hb hK (hP 6 _ rfl) rfl dX1_middleSlope_44 ?_
                refine x_icmp_ge (tgt := 76) hx hb (by omega) (by omega) dX1_middleSlope_45 (by decide) (fun c_8 => ?_) (fun c_8 => ?_)
                · exact absurd c_8 (by omega)
                · refine lv_aload_n hx hb dX1_middleSlope_48 rfl (lv_at hl 1 rfl) ?_
                  refine x_get (T := TX1) (N := 11) (v := .ref (rb 6)) hx hb hts in_X1 hown hK (hP 0 _ rfl) rfl 10 (by decide) k_f27 (fun _ h9 => h9) (rfl) dX1_middleSlope_49 ?_
                  refine lv_iload_n hx hb dX1_middleSlope_52 rfl (lv_at hl 2 rfl) ?_
                  refine lv_bipush (v := nI 100) hx hb dX1_middleSlope_53 (by decide +kernel) ?_
                  refine lv_aload_n hx hb dX1_middleSlope_55 rfl (lv_at hl 1 rfl) ?_
                  refine x_get (T := TX1) (N := 11) (v := .ref (rb 3)) hx hb hts in_X1 hown hK (hP 0 _ rfl) rfl 7 (by decide) k_f18 (fun _ h9 => h9) (rfl) dX1_middleSlope_56 ?_
                  refine lv_iload_n hx hb dX1_middleSlope_59 rfl (lv_at hl 3 rfl) ?_
                  refine x_ialdN hx hb hK (hP 3 _ rfl) (by omega) (by decide) dX1_middleSlope_60 ?_
                  refine W.eq (g2 := F0 m 61 ls [.int ((rr L T o j bb)), .int (nI 100), .int (nI ((colS (sv L T o j) bb ++ colR (sv L T o j) bb aa).length)), .ref (rb 6)]) (congrArg (fun z => F0 m 61 ls (.int z :: [.int (nI 100), .int (nI ((colS (sv L T o j) bb ++ colR (sv L T o j) bb aa).length)), .ref (rb 6)])) (hrA bb hbl)) ?_
                  refine lv_aload_n hx hb dX1_middleSlope_61 rfl (lv_at hl 1 rfl) ?_
                  refine x_get (T := TX1) (N := 11) (v := .ref (rb 3)) hx hb hts in_X1 hown hK (hP 0 _ rfl) rfl 7 (by decide) k_f18 (fun _ h9 => h9) (rfl) dX1_middleSlope_62 ?_
                  refine lv_iload_n hx hb dX1_middleSlope_65 rfl (lv_at hl 4 rfl) ?_
                  refine x_ialdN hx hb hK (hP 3 _ rfl) (by omega) (by decide) dX1_middleSlope_66 ?_
                  refine W.eq (g2 := F0 m 67 ls [.int ((rr L T o j aa)), .int ((rr L T o j bb)), .int (nI 100), .int (nI ((colS (sv L T o j) bb ++ colR (sv L T o j) bb aa).length)), .ref (rb 6)]) (congrArg (fun z => F0 m 67 ls (.int z :: [.int ((rr L T o j bb)), .int (nI 100), .int (nI ((colS (sv L T o j) bb ++ colR (sv L T o j) bb aa).length)), .ref (rb 6)])) (hrA aa hal)) ?_
                  refine lv_isub hx hb dX1_middleSlope_67 ?_
                  refine lv_imul hx hb dX1_middleSlope_68 ?_
                  refine lv_iload hx hb dX1_middleSlope_69 (lv_at hl 0 rfl) ?_
                  refine lv_idiv hx hb dX1_middleSlope_71 (sub_ne (sq_asc (P := fun s => gL L s 0) ho (by omega) hbl)) ?_
                  refine x_iast hx hb hK hP hD hS 6 rfl (by omega) (by decide) dX1_middleSlope_72 (fun H locs hP hD hS => ?_)
                  have hP : rP G rb ri (va_up ra 5 (upd v ((colS (sv L T o j) bb ++ colR (sv L T o j) bb aa).length) (((nI 100) * ((rr L T o j bb) - (rr L T o j aa))) / ((gL L (sq L T o j bb) 0) - (gL L (sq L T o j aa) 0))))) H := hP
                  have hD : va_D A (rW G rb ri (va_up ra 5 (upd v ((colS (sv L T o j) bb ++ colR (sv L T o j) bb aa).length) (((nI 100) * ((rr L T o j bb) - (rr L T o j aa))) / ((gL L (sq L T o j bb) 0) - (gL L (sq L T o j aa) 0)))))) := hD.same rfl
                  refine lv_iinc (v := nI (((colS (sv L T o j) bb ++ colR (sv L T o j) bb aa).length) + 1)) (lv' := [(1, .int (nI (((colS (sv L T o j) bb ++ colR (sv L T o j) bb aa).length) + 1))), (4, .int ((gL L (sq L T o j bb) 0) - (gL L (sq L T o j aa) 0))), (0, .ref (rb 0)), (2, .int (nI bb)), (3, .int (nI aa))]) hx hb dX1_middleSlope_73 hl (k := 2) rfl (nI_incn _) (by decide) rfl (fun ls hl => ?_)
                  have hl : lv_has ls 5 [(1, .int (nI ((colS (sv L T o j) bb ++ colR (sv L T o j) bb (aa + 1)).length))), (4, .int ((gL L (sq L T o j bb) 0) - (gL L (sq L T o j aa) 0))), (0, .ref (rb 0)), (2, .int (nI bb)), (3, .int (nI aa))] := by
                    have e9 : (colS (sv L T o j) bb ++ colR (sv L T o j) bb (aa + 1)).length = ((colS (sv L T o j) bb ++ colR (sv L T o j) bb aa).length) + 1 := colS_ul
                    rw [e9]; exact hl
                  refine lv_iinc (v := nI (aa + 1)) (lv' := [(3, .int (nI (aa + 1))), (1, .int (nI ((colS (sv L T o j) bb ++ colR (sv L T o j) bb (aa + 1)).length))), (4, .int ((gL L (sq L T o j bb) 0) - (gL L (sq L T o j aa) 0))), (0, .ref (rb 0)), (2, .int (nI bb))]) hx hb dX1_middleSlope_76 hl (k := 4) rfl (nI_incn _) (by decide) rfl (fun ls hl => ?_)
                  refine lv_goto (tgt := 14) hx hb dX1_middleSlope_79 (by decide) ?_
                  exact ih_5 (aa + 1) (upd v ((colS (sv L T o j) bb ++ colR (sv L T o j) bb aa).length) (((nI 100) * ((rr L T o j bb) - (rr L T o j aa))) / ((gL L (sq L T o j bb) 0) - (gL L (sq L T o j aa) 0)))) _ _ ls (by omega) (by omega) (colS_upd hv) (hP) (hS) (lv_sub hl [3, 1, 4, 0] rfl)
        exact loop_5 _ 0 v _ _ ls (Nat.lt_succ_self _) (Nat.zero_le _) (by rw [colR, List.append_nil]; exact hv) (hP) (hS) (lv_sub hl [1, 2, 3, 0] rfl)
  exact loop_1 _ 1 (ra 5) _ _ ls (Nat.lt_succ_self _) (Nat.le_refl _) (by omega) (rfl) (hP) (hS) (lv_sub hl [2, 1, 0] rfl)
abbrev rmX1_middleBase : Room := { frames := 1, cells := 0, slots := 0, locals := 24 }
theorem qdX1_middleBase : yX1_middleBase.cls = RX1 ∧ yX1_middleBase.cls ≠ "java/lang/invoke/MethodHandle" ∧ yX1_middleBase.cls ≠ "java/lang/invoke/VarHandle" ∧ (parseMethodDescriptor yX1_middleBase.desc).map (fun d => d.parameters.length) = some 0 := by decide +kernel
set_option maxHeartbeats 4000000 in
set_option maxRecDepth 100000 in
theorem c_X1_middleBase {l : Launch} {G : gT} {A : Nat → Prop} {rb : Nat → Nat} {ri : Nat → Int32} {ra : Nat → Nat → Int32} {H0 : Heap} {n hn j : Nat} {L T : Nat → Int32} {o : List Nat} (hP : rP G rb ri ra H0) (hD : va_D A (rW G rb ri ra)) (hg : OK n hn L T) (ho : IsOrd (fun s => gL L s 0) n o) (hM : ri 0 = nI (sqL L T o j).length) (hsA : ∀ k, k < (sqL L T o j).length → ra 0 k = nI (sq L T o j k)) (hpA : ∀ k, k < (sqL L T o j).length → ra 1 k = (gL L (sq L T o j k) 0)) (hrA : ∀ k, k < (sqL L T o j).length → ra 2 k = (rr L T o j k)) (hM2 : 2 ≤ (sqL L T o j).length) : WnI G l yX1_middleBase wsX1_middleBase rmX1_middleBase [.ref (rb 0)] H0 A (fun r H1 => r = mid (fun k => ((rr L T o j k) - rise (ri 2) (gL L (sq L T o j k) 0))) (sqL L T o j).length ∧ ∃ v, rP G rb ri (va_up ra 4 v) H1) := by
  refine x_headn (bytes := cX1_middleBase) (maxL := 2) (ret := (some .int)) (by decide) rfl (Nat.le_of_ble_eq_true rfl) ?_
  intro p e s m below meth c ls hx hb hml hown hts hr hlk hnm hK hs0 hl Q hQ hN
  have hl : lv_has ls 2 [(0, .ref (rb 0))] := hl
  have hC : CallFix p m c cX1_middleBase 2 s [.ref (rb 0)].toArray wsX1_middleBase RX1 := ⟨hx, hb, hml, hown, hts⟩
  have k_f48 := hts (.fieldLink RX1 48 "SundogLine$Reckoning" "seen" "I") (by decide +kernel)
  have in_X1 : ∀ w ∈ u_ws RX1 TX1 11, w ∈ wsX1_middleBase := by decide +kernel
  have k_f24 := hts (.fieldLink RX1 24 "SundogLine$Reckoning" "work" "[I") (by decide +kernel)
  have k_nX3 := hts (.initialized RX3) (by decide +kernel)
  have k_sX3m := hts (.static yX3_middle) (by decide +kernel)
  have k_f18 := hts (.fieldLink RX1 18 "SundogLine$Reckoning" "readings" "[I") (by decide +kernel)
  have k_f15 := hts (.fieldLink RX1 15 "SundogLine$Reckoning" "places" "[I") (by decide +kernel)
  have hS : va_S A H0 H0 [] := va_S.rf
  have hn12 := hg.n
  have hh16 := hg.hn
  have hM12 : (sqL L T o j).length ≤ n := sqM_le ho
  refine lv_iconst (v := nI 0) hx hb dX1_middleBase_0 (by decide +kernel) ?_
  refine lv_istore_n (lv' := [(1, .int (nI 0)), (0, .ref (rb 0))]) hx hb dX1_middleBase_1 rfl hl (by decide) rfl (fun ls hl => ?_)
  have hP : rP G rb ri (va_up ra 4 (ra 4)) H0 := hP
  have hD : va_D A (rW G rb ri (va_up ra 4 (ra 4))) := hD.same rfl
  have loop_1 : ∀ (fu : Nat) (kk : Nat) (v : Nat → Int32) (H : Heap) (locs : List Loc) (ls : Array Slot), (sqL L T o j).length - kk < fu → (kk ≤ (sqL L T o j).length) → (∀ x, x < kk → v x = ((rr L T o j x) - rise (ri 2) (gL L (sq L T o j x) 0))) → (va_P (gD G) vC (rW G rb ri (va_up ra 4 v)) H) → (va_S A H0 H locs) → lv_has ls 2 [(0, .ref (rb 0)), (1, .int (nI kk))] → W p l e rmX1_middleBase s m [.ref (rb 0)].toArray below meth c H locs 0 0 Q (F0 m 2 ls []) := by
    intro fu
    induction fu with
    | zero => intro kk v H locs ls hms hk hv hP hS hl; exact absurd hms (Nat.not_lt_zero _)
    | succ fu ih_1 =>
      intro kk v H locs ls hms hk hv hP hS hl
      have hD : va_D A (rW G rb ri (va_up ra 4 v)) := hD.same rfl
      refine lv_iload_n hx hb dX1_middleBase_2 rfl (lv_at hl 1 rfl) ?_
      refine lv_aload_n hx hb dX1_middleBase_3 rfl (lv_at hl 0 rfl) ?_
      refine x_get (T := TX1) (N := 11) (v := .int (nI ((sqL L T o j).length))) hx hb hts in_X1 hown hK (hP 0 _ rfl) rfl 0 (by decide) k_f48 (fun _ h9 => h9) (congrArg (fun z => some (Value.int z)) hM) dX1_middleBase_4 ?_
      refine x_icmp_ge (tgt := 39) hx hb (by omega) (by omega) dX1_middleBase_7 (by decide) (fun c_2 => ?_) (fun c_2 => ?_)
      · have hkM : kk = (sqL L T o j).length := by omega
        refine lv_aload_n hx hb dX1_middleBase_39 rfl (lv_at hl 0 rfl) ?_
        refine x_get (T := TX1) (N := 11) (v := .ref (rb 5)) hx hb hts in_X1 hown hK (hP 0 _ rfl) rfl 9 (by decide) k_f24 (fun _ h9 => h9) (rfl) dX1_middleBase_40 ?_
        refine lv_aload_n hx hb dX1_middleBase_43 rfl (lv_at hl 0 rfl) ?_
        refine x_get (T := TX1) (N := 11) (v := .int (nI ((sqL L T o j).length))) hx hb hts in_X1 hown hK (hP 0 _ rfl) rfl 0 (by decide) k_f48 (fun _ h9 => h9) (congrArg (fun z => some (Value.int z)) hM) dX1_middleBase_44 ?_
        refine x_runi (va_runSN (As := [.ref (rb 5), .int (nI ((sqL L T o j).length))]) (rest := []) hC (c_X3_middle (hP 5 _ rfl) (by omega) (by omega) (by decide)) ⟨va_cnB 2 hts gX1_middleBase_X3_middle_n86 rfl rfl rfl hN k_nX3 qdX3_middle.2 ⟨Nat.le_of_ble_eq_true rfl, Nat.le_of_ble_eq_true rfl⟩, k_sX3m, trivial⟩ (x_preS hK) rfl rfl hl.1 rfl (lv_room (Nat.le_of_ble_eq_true rfl)) dX1_middleBase_47 ⟨Nat.le_of_ble_eq_true rfl, Nat.le_of_ble_eq_true rfl⟩) hS (fun q9 e9 => by rw [e9]; exact hD.2 5 _ rfl) (fun r_3 H locs hfr hΦ hS => ?_)
        obtain ⟨er_3, v_4, h9⟩ := hΦ
        have hP : rP G rb ri (va_up ra 4 v_4) H := cell_call hP hD (k := 5) rfl hfr h9
        have hD : va_D A (rW G rb ri (va_up ra 4 v_4)) := hD.same rfl
        exact x_iret hQ hx hb hr rfl hlk hS.2.2 dX1_middleBase_50 (⟨hS.fr, er_3.trans (congrArg midL (ls'_congr (fun x9 hx9 => hv x9 (by omega)))), v_4, hP⟩)
      · have hkl : kk < (sqL L T o j).length := by omega
        refine lv_aload_n hx hb dX1_middleBase_10 rfl (lv_at hl 0 rfl) ?_
        refine x_get (T := TX1) (N := 11) (v := .ref (rb 5)) hx hb hts in_X1 hown hK (hP 0 _ rfl) rfl 9 (by decide) k_f24 (fun _ h9 => h9) (rfl) dX1_middleBase_11 ?_
        refine lv_iload_n hx hb dX1_middleBase_14 rfl (lv_at hl 1 rfl) ?_
        refine lv_aload_n hx hb dX1_middleBase_15 rfl (lv_at hl 0 rfl) ?_
        refine x_get (T := TX1) (N := 11) (v := .ref (rb 3)) hx hb hts in_X1 hown hK (hP 0 _ rfl) rfl 7 (by decide) k_f18 (fun _ h9 => h9) (rfl) dX1_middleBase_16 ?_
        refine lv_iload_n hx hb dX1_middleBase_19 rfl (lv_at hl 1 rfl) ?_
        refine x_ialdN hx hb hK (hP 3 _ rfl) (by omega) (by decide) dX1_middleBase_20 ?_
        refine W.eq (g2 := F0 m 21 ls [.int ((rr L T o j kk)), .int (nI kk), .ref (rb 5)]) (congrArg (fun z => F0 m 21 ls (.int z :: [.int (nI kk), .ref (rb 5)])) (hrA kk hkl)) ?_
        refine lv_aload_n hx hb dX1_middleBase_21 rfl (lv_at hl 0 rfl) ?_
        refine lv_aload_n hx hb dX1_middleBase_22 rfl (lv_at hl 0 rfl) ?_
        refine x_get (T := TX1) (N := 11) (v := .ref (rb 2)) hx hb hts in_X1 hown hK (hP 0 _ rfl) rfl 6 (by decide) k_f15 (fun _ h9 => h9) (rfl) dX1_middleBase_23 ?_
        refine lv_iload_n hx hb dX1_middleBase_26 rfl (lv_at hl 1 rfl) ?_
        refine x_ialdN hx hb hK (hP 2 _ rfl) (by omega) (by decide) dX1_middleBase_27 ?_
        refine W.eq (g2 := F0 m 28 ls [.int ((gL L (sq L T o j kk) 0)), .ref (rb 0), .int ((rr L T o j kk)), .int (nI kk), .ref (rb 5)]) (congrArg (fun z => F0 m 28 ls (.int z :: [.ref (rb 0), .int ((rr L T o j kk)), .int (nI kk), .ref (rb 5)])) (hpA kk hkl)) ?_
        refine x_rd (va_runV (As := [.int ((gL L (sq L T o j kk) 0))]) (rest := [.int ((rr L T o j kk)), .int (nI kk), .ref (rb 5)]) hC (c_X1_riseTo hP) (cwV 1 hts gX1_middleBase_X1_riseTo rfl rfl rfl qdX1_riseTo ⟨Nat.le_of_ble_eq_true rfl, Nat.le_of_ble_eq_true rfl⟩) (x_preV hK (x_recv hK (hP 0 _ rfl) rfl)) rfl rfl hl.1 rfl (lv_room (Nat.le_of_ble_eq_true rfl)) dX1_middleBase_28 ⟨Nat.le_of_ble_eq_true rfl, Nat.le_of_ble_eq_true rfl⟩) ?_
        refine W.eq (g2 := F0 m 31 ls [.int (rise (ri 2) (gL L (sq L T o j kk) 0)), .int ((rr L T o j kk)), .int (nI kk), .ref (rb 5)]) rfl ?_
        refine lv_isub hx hb dX1_middleBase_31 ?_
        refine x_iast hx hb hK hP hD hS 5 rfl (by omega) (by decide) dX1_middleBase_32 (fun H locs hP hD hS => ?_)
        have hP : rP G rb ri (va_up ra 4 (upd v kk ((rr L T o j kk) - (rise (ri 2) (gL L (sq L T o j kk) 0))))) H := hP
        have hD : va_D A (rW G rb ri (va_up ra 4 (upd v kk ((rr L T o j kk) - (rise (ri 2) (gL L (sq L T o j kk) 0)))))) := hD.same rfl
        refine lv_iinc (v := nI (kk + 1)) (lv' := [(1, .int (nI (kk + 1))), (0, .ref (rb 0))]) hx hb dX1_middleBase_33 hl (k := 1) rfl (nI_incn _) (by decide) rfl (fun ls hl => ?_)
        refine lv_goto (tgt := 2) hx hb dX1_middleBase_36 (by decide) ?_
        exact ih_1 (kk + 1) (upd v kk ((rr L T o j kk) - (rise (ri 2) (gL L (sq L T o j kk) 0)))) _ _ ls (by omega) (by omega) (upd_all hv rfl) (hP) (hS) (lv_sub hl [1, 0] rfl)
  exact loop_1 _ 0 (ra 4) _ _ ls (Nat.lt_succ_self _) (Nat.zero_le _) (fun x hx => absurd hx (Nat.not_lt_zero _)) (hP) (hS) (lv_sub hl [1, 0] rfl)
abbrev rmX1_longestRun : Room := { frames := 1, cells := 0, slots := 0, locals := 17 }
theorem qdX1_longestRun : yX1_longestRun.cls = RX1 ∧ yX1_longestRun.cls ≠ "java/lang/invoke/MethodHandle" ∧ yX1_longestRun.cls ≠ "java/lang/invoke/VarHandle" ∧ (parseMethodDescriptor yX1_longestRun.desc).map (fun d => d.parameters.length) = some 1 := by decide +kernel
set_option maxHeartbeats 4000000 in
set_option maxRecDepth 100000 in
theorem c_X1_longestRun {l : Launch} {G : gT} {A : Nat → Prop} {rb : Nat → Nat} {ri : Nat → Int32} {ra : Nat → Nat → Int32} {H0 : Heap} {M : Nat} {sg : Int32} (hP : rP G rb ri ra H0) (hD : va_D A (rW G rb ri ra)) (hM : ri 0 = nI M) (hM12 : M ≤ 12) : WrI G l yX1_longestRun wsX1_longestRun rmX1_longestRun [.ref (rb 0), .int sg] H0 A (fun r H1 => r = nI (lrun (gc sg (ra 2)) M) ∧ ∃ v, rP G rb ri (va_up ra 4 v) H1) := by
  refine x_head (bytes := cX1_longestRun) (maxL := 5) (ret := (some .int)) (by decide) rfl (Nat.le_of_ble_eq_true rfl) ?_
  intro p e s m below meth c ls hx hb hml hown hts hr hlk hnm hK hs0 hl Q hQ
  have hl : lv_has ls 5 [(0, .ref (rb 0)), (1, .int sg)] := hl
  have hC : CallFix p m c cX1_longestRun 5 s [.ref (rb 0), .int sg].toArray wsX1_longestRun RX1 := ⟨hx, hb, hml, hown, hts⟩
  have k_f48 := hts (.fieldLink RX1 48 "SundogLine$Reckoning" "seen" "I") (by decide +kernel)
  have in_X1 : ∀ w ∈ u_ws RX1 TX1 11, w ∈ wsX1_longestRun := by decide +kernel
  have k_f24 := hts (.fieldLink RX1 24 "SundogLine$Reckoning" "work" "[I") (by decide +kernel)
  have k_m104 := hts (.methodLink RX1 104 Lib.Math.max.name) (by decide +kernel)
  have k_msmax := hts (.static Lib.Math.max.name) (by decide +kernel)
  have k_mi := hts (.initialized "java/lang/Math") (by decide +kernel)
  have k_mcmax := hts (.code Lib.Math.max.name Lib.Math.max.code 2 (some .int)) (by decide +kernel)
  have k_f18 := hts (.fieldLink RX1 18 "SundogLine$Reckoning" "readings" "[I") (by decide +kernel)
  have hS : va_S A H0 H0 [] := va_S.rf
  refine lv_iconst (v := nI 0) hx hb dX1_longestRun_0 (by decide +kernel) ?_
  refine lv_istore_n (lv' := [(2, .int (nI 0)), (0, .ref (rb 0)), (1, .int sg)]) hx hb dX1_longestRun_1 rfl hl (by decide) rfl (fun ls hl => ?_)
  refine lv_iconst (v := nI 0) hx hb dX1_longestRun_2 (by decide +kernel) ?_
  refine lv_istore_n (lv' := [(3, .int (nI 0)), (2, .int (nI 0)), (0, .ref (rb 0)), (1, .int sg)]) hx hb dX1_longestRun_3 rfl hl (by decide) rfl (fun ls hl => ?_)
  have hP : rP G rb ri (va_up ra 4 (ra 4)) H0 := hP
  have hD : va_D A (rW G rb ri (va_up ra 4 (ra 4))) := hD.same rfl
  have loop_1 : ∀ (fu : Nat) (kk : Nat) (v : Nat → Int32) (H : Heap) (locs : List Loc) (ls : Array Slot), M - kk < fu → (kk ≤ M) → (∀ x, x < kk → v x = nI (wf (gc sg (ra 2)) x)) → (va_P (gD G) vC (rW G rb ri (va_up ra 4 v)) H) → (va_S A H0 H locs) → lv_has ls 5 [(0, .ref (rb 0)), (1, .int sg), (2, .int (nI (lrun (gc sg (ra 2)) kk))), (3, .int (nI kk))] → W p l e rmX1_longestRun s m [.ref (rb 0), .int sg].toArray below meth c H locs 0 0 Q (F0 m 4 ls []) := by
    intro fu
    induction fu with
    | zero => intro kk v H locs ls hms hk hv hP hS hl; exact absurd hms (Nat.not_lt_zero _)
    | succ fu ih_1 =>
      intro kk v H locs ls hms hk hv hP hS hl
      have hD : va_D A (rW G rb ri (va_up ra 4 v)) := hD.same rfl
      refine lv_iload_n hx hb dX1_longestRun_4 rfl (lv_at hl 3 rfl) ?_
      refine lv_aload_n hx hb dX1_longestRun_5 rfl (lv_at hl 0 rfl) ?_
      refine x_get (T := TX1) (N := 11) (v := .int (nI M)) hx hb hts in_X1 hown hK (hP 0 _ rfl) rfl 0 (by decide) k_f48 (fun _ h9 => h9) (congrArg (fun z => some (Value.int z)) hM) dX1_longestRun_6 ?_
      refine x_icmp_ge (tgt := 102) hx hb (by omega) (by omega) dX1_longestRun_9 (by decide) (fun c_2 => ?_) (fun c_2 => ?_)
      · refine lv_iload_n hx hb dX1_longestRun_102 rfl (lv_at hl 2 rfl) ?_
        exact x_iret hQ hx hb hr rfl hlk hS.2.2 dX1_longestRun_103 (⟨hS.fr, by rw [show M = kk by omega], v, hP⟩)
      · refine lv_aload_n hx hb dX1_longestRun_12 rfl (lv_at hl 0 rfl) ?_
        refine x_get (T := TX1) (N := 11) (v := .ref (rb 5)) hx hb hts in_X1 hown hK (hP 0 _ rfl) rfl 9 (by decide) k_f24 (fun _ h9 => h9) (rfl) dX1_longestRun_13 ?_
        refine lv_iload_n hx hb dX1_longestRun_16 rfl (lv_at hl 3 rfl) ?_
        refine lv_iconst (v := nI 1) hx hb dX1_longestRun_17 (by decide +kernel) ?_
        refine x_iast hx hb hK hP hD hS 5 rfl (by omega) (by decide) dX1_longestRun_18 (fun H locs hP hD hS => ?_)
        have hP : rP G rb ri (va_up ra 4 (upd v kk (nI 1))) H := hP
        have hD : va_D A (rW G rb ri (va_up ra 4 (upd v kk (nI 1)))) := hD.same rfl
        refine lv_iconst (v := nI 0) hx hb dX1_longestRun_19 (by decide +kernel) ?_
        refine lv_istore (lv' := [(4, .int (nI 0)), (0, .ref (rb 0)), (1, .int sg), (2, .int (nI (lrun (gc sg (ra 2)) kk))), (3, .int (nI kk))]) hx hb dX1_longestRun_20 hl (by decide) rfl (fun ls hl => ?_)
        have loop_3 : ∀ (fu : Nat) (ii : Nat) (H : Heap) (locs : List Loc) (ls : Array Slot), kk - ii < fu → (ii ≤ kk) → (va_P (gD G) vC (rW G rb ri (va_up ra 4 (upd v kk (nI (inn (gc sg (ra 2)) kk ii))))) H) → (va_S A H0 H locs) → lv_has ls 5 [(0, .ref (rb 0)), (1, .int sg), (2, .int (nI (lrun (gc sg (ra 2)) kk))), (3, .int (nI kk)), (4, .int (nI ii))] → W p l e rmX1_longestRun s m [.ref (rb 0), .int sg].toArray below meth c H locs 0 0 Q (F0 m 22 ls []) := by
          intro fu
          induction fu with
          | zero => intro ii H locs ls hms hi hP hS hl; exact absurd hms (Nat.not_lt_zero _)
          | succ fu ih_3 =>
            intro ii H locs ls hms hi hP hS hl
            have hD : va_D A (rW G rb ri (va_up ra 4 (upd v kk (nI (inn (gc sg (ra 2)) kk ii))))) := hD.same rfl
            refine lv_iload hx hb dX1_longestRun_22 (lv_at hl 4 rfl) ?_
            refine lv_iload_n hx hb dX1_longestRun_24 rfl (lv_at hl 3 rfl) ?_
            refine x_icmp_ge (tgt := 85) hx hb (by omega) (by omega) dX1_longestRun_25 (by decide) (fun c_4 => ?_) (fun c_4 => ?_)
            · refine lv_iload_n hx hb dX1_longestRun_85 rfl (lv_at hl 2 rfl) ?_
              refine lv_aload_n hx hb dX1_longestRun_86 rfl (lv_at hl 0 rfl) ?_
              refine x_get (T := TX1) (N := 11) (v := .ref (rb 5)) hx hb hts in_X1 hown hK (hP 0 _ rfl) rfl 9 (by decide) k_f24 (fun _ h9 => h9) (rfl) dX1_longestRun_87 ?_
              refine lv_iload_n hx hb dX1_longestRun_90 rfl (lv_at hl 3 rfl) ?_
              refine x_ialdN hx hb hK (hP 5 _ rfl) (by omega) (by decide) dX1_longestRun_91 ?_
              refine W.eq (g2 := F0 m 92 ls [.int (nI (wf (gc sg (ra 2)) kk)), .int (nI (lrun (gc sg (ra 2)) kk))]) (congrArg (fun z => F0 m 92 ls (.int z :: [.int (nI (lrun (gc sg (ra 2)) kk))])) (pk_us.trans (congrArg nI (by rw [wf_eq, show ii = kk by omega])))) ?_
              refine va_mmax hx hb (hml.trans hl.1.symm) hown k_m104 k_msmax k_mi k_mcmax (by decide) (Nat.le_of_ble_eq_true rfl) (Nat.zero_le _) (Nat.zero_le _) dX1_longestRun_92 ?_
              refine W.eq (g2 := F0 m 95 ls [.int (mx (nI (lrun (gc sg (ra 2)) kk)) (nI (wf (gc sg (ra 2)) kk)))]) rfl ?_
              refine W.eq (g2 := F0 m 95 ls [.int (nI (lrun (gc sg (ra 2)) (kk + 1)))]) (congrArg (fun z => F0 m 95 ls (.int z :: [])) (mx_nat (by have := lrun_le (gc sg (ra 2)) kk; omega) (by have := wf_le (gc sg (ra 2)) kk; omega))) ?_
              refine lv_istore_n (lv' := [(2, .int (nI (lrun (gc sg (ra 2)) (kk + 1)))), (0, .ref (rb 0)), (1, .int sg), (3, .int (nI kk)), (4, .int (nI ii))]) hx hb dX1_longestRun_95 rfl hl (by decide) rfl (fun ls hl => ?_)
              refine lv_iinc (v := nI (kk + 1)) (lv' := [(3, .int (nI (kk + 1))), (2, .int (nI (lrun (gc sg (ra 2)) (kk + 1)))), (0, .ref (rb 0)), (1, .int sg), (4, .int (nI ii))]) hx hb dX1_longestRun_96 hl (k := 3) rfl (nI_incn _) (by decide) rfl (fun ls hl => ?_)
              refine lv_goto (tgt := 4) hx hb dX1_longestRun_99 (by decide) ?_
              exact ih_1 (kk + 1) (upd v kk (nI (inn (gc sg (ra 2)) kk ii))) _ _ ls (by omega) (by omega) (upd_all hv (by rw [wf_eq, show ii = kk by omega])) (hP) (hS) (lv_sub hl [2, 3, 1, 0] rfl)
            · refine lv_iload_n hx hb dX1_longestRun_28 rfl (lv_at hl 1 rfl) ?_
              refine lv_aload_n hx hb dX1_longestRun_29 rfl (lv_at hl 0 rfl) ?_
              refine x_get (T := TX1) (N := 11) (v := .ref (rb 3)) hx hb hts in_X1 hown hK (hP 0 _ rfl) rfl 7 (by decide) k_f18 (fun _ h9 => h9) (rfl) dX1_longestRun_30 ?_
              refine lv_iload hx hb dX1_longestRun_33 (lv_at hl 4 rfl) ?_
              refine x_ialdN hx hb hK (hP 3 _ rfl) (by omega) (by decide) dX1_longestRun_35 ?_
              refine lv_imul hx hb dX1_longestRun_36 ?_
              refine lv_iload_n hx hb dX1_longestRun_37 rfl (lv_at hl 1 rfl) ?_
              refine lv_aload_n hx hb dX1_longestRun_38 rfl (lv_at hl 0 rfl) ?_
              refine x_get (T := TX1) (N := 11) (v := .ref (rb 3)) hx hb hts in_X1 hown hK (hP 0 _ rfl) rfl 7 (by decide) k_f18 (fun _ h9 => h9) (rfl) dX1_longestRun_39 ?_
              refine lv_iload_n hx hb dX1_longestRun_42 rfl (lv_at hl 3 rfl) ?_
              refine x_ialdN hx hb hK (hP 3 _ rfl) (by omega) (by decide) dX1_longestRun_43 ?_
              refine lv_imul hx hb dX1_longestRun_44 ?_
              refine lv_icmp_gt (tgt := 79) hx hb dX1_longestRun_45 (by decide) (fun c_5 => ?_) (fun c_5 => ?_)
              · have hP : rP G rb ri (va_up ra 4 (upd v kk (nI (inn (gc sg (ra 2)) kk (ii + 1))))) H := by rw [show (inn (gc sg (ra 2)) kk (ii + 1)) = (inn (gc sg (ra 2)) kk ii) from if_neg (by simp only [gc, decide_eq_true_eq]; exact Int32.not_le.mpr c_5)]; exact hP
                have hD : va_D A (rW G rb ri (va_up ra 4 (upd v kk (nI (inn (gc sg (ra 2)) kk (ii + 1)))))) := hD.same rfl
                refine lv_iinc (v := nI (ii + 1)) (lv' := [(4, .int (nI (ii + 1))), (0, .ref (rb 0)), (1, .int sg), (2, .int (nI (lrun (gc sg (ra 2)) kk))), (3, .int (nI kk))]) hx hb dX1_longestRun_79 hl (k := 4) rfl (nI_incn _) (by decide) rfl (fun ls hl => ?_)
                refine lv_goto (tgt := 22) hx hb dX1_longestRun_82 (by decide) ?_
                exact ih_3 (ii + 1) _ _ ls (by omega) (by omega) (hP) (hS) (lv_sub hl [1, 2, 3, 4, 0] rfl)
              · have hb1 := inn_le (gc sg (ra 2)) kk ii (by omega)
                have hb2 := wf_le (gc sg (ra 2)) ii
                refine lv_aload_n hx hb dX1_longestRun_48 rfl (lv_at hl 0 rfl) ?_
                refine x_get (T := TX1) (N := 11) (v := .ref (rb 5)) hx hb hts in_X1 hown hK (hP 0 _ rfl) rfl 9 (by decide) k_f24 (fun _ h9 => h9) (rfl) dX1_longestRun_49 ?_
                refine lv_iload hx hb dX1_longestRun_52 (lv_at hl 4 rfl) ?_
                refine x_ialdN hx hb hK (hP 5 _ rfl) (by omega) (by decide) dX1_longestRun_54 ?_
                refine W.eq (g2 := F0 m 55 ls [.int (nI (wf (gc sg (ra 2)) ii))]) (congrArg (fun z => F0 m 55 ls (.int z :: [])) ((pk_un (by omega)).trans (hv ii (by omega)))) ?_
                refine lv_aload_n hx hb dX1_longestRun_55 rfl (lv_at hl 0 rfl) ?_
                refine x_get (T := TX1) (N := 11) (v := .ref (rb 5)) hx hb hts in_X1 hown hK (hP 0 _ rfl) rfl 9 (by decide) k_f24 (fun _ h9 => h9) (rfl) dX1_longestRun_56 ?_
                refine lv_iload_n hx hb dX1_longestRun_59 rfl (lv_at hl 3 rfl) ?_
                refine x_ialdN hx hb hK (hP 5 _ rfl) (by omega) (by decide) dX1_longestRun_60 ?_
                refine W.eq (g2 := F0 m 61 ls [.int (nI (inn (gc sg (ra 2)) kk ii)), .int (nI (wf (gc sg (ra 2)) ii))]) (congrArg (fun z => F0 m 61 ls (.int z :: [.int (nI (wf (gc sg (ra 2)) ii))])) (pk_us)) ?_
                refine x_icmp_lt (tgt := 79) hx hb (by omega) (by omega) dX1_longestRun_61 (by decide) (fun c_6 => ?_) (fun c_6 => ?_)
                · have hP : rP G rb ri (va_up ra 4 (upd v kk (nI (inn (gc sg (ra 2)) kk (ii + 1))))) H := by rw [show (inn (gc sg (ra 2)) kk (ii + 1)) = (inn (gc sg (ra 2)) kk ii) from (if_pos (by simp only [gc, decide_eq_true_eq]; exact Int32.not_lt.mp c_5)).trans (by omega)]; exact hP
                  have hD : va_D A (rW G rb ri (va_up ra 4 (upd v kk (nI (inn (gc sg (ra 2)) kk (ii + 1)))))) := hD.same rfl
                  refine lv_iinc (v := nI (ii + 1)) (lv' := [(4, .int (nI (ii + 1))), (0, .ref (rb 0)), (1, .int sg), (2, .int (nI (lrun (gc sg (ra 2)) kk))), (3, .int (nI kk))]) hx hb dX1_longestRun_79 hl (k := 4) rfl (nI_incn _) (by decide) rfl (fun ls hl => ?_)
                  refine lv_goto (tgt := 22) hx hb dX1_longestRun_82 (by decide) ?_
                  exact ih_3 (ii + 1) _ _ ls (by omega) (by omega) (hP) (hS) (lv_sub hl [1, 2, 3, 4, 0] rfl)
                · refine lv_aload_n hx hb dX1_longestRun_64 rfl (lv_at hl 0 rfl) ?_
                  refine x_get (T := TX1) (N := 11) (v := .ref (rb 5)) hx hb hts in_X1 hown hK (hP 0 _ rfl) rfl 9 (by decide) k_f24 (fun _ h9 => h9) (rfl) dX1_longestRun_65 ?_
                  refine lv_iload_n hx hb dX1_longestRun_68 rfl (lv_at hl 3 rfl) ?_
                  refine lv_aload_n hx hb dX1_longestRun_69 rfl (lv_at hl 0 rfl) ?_
                  refine x_get (T := TX1) (N := 11) (v := .ref (rb 5)) hx hb hts in_X1 hown hK (hP 0 _ rfl) rfl 9 (by decide) k_f24 (fun _ h9 => h9) (rfl) dX1_longestRun_70 ?_
                  refine lv_iload hx hb dX1_longestRun_73 (lv_at hl 4 rfl) ?_
                  refine x_ialdN hx hb hK (hP 5 _ rfl) (by omega) (by decide) dX1_longestRun_75 ?_
                  refine W.eq (g2 := F0 m 76 ls [.int (nI (wf (gc sg (ra 2)) ii)), .int (nI kk), .ref (rb 5)]) (congrArg (fun z => F0 m 76 ls (.int z :: [.int (nI kk), .ref (rb 5)])) ((pk_un (by omega)).trans (hv ii (by omega)))) ?_
                  refine lv_iconst (v := nI 1) hx hb dX1_longestRun_76 (by decide +kernel) ?_
                  refine x_iaddN hx hb dX1_longestRun_77 ?_
                  refine x_iast hx hb hK hP hD hS 5 rfl (by omega) (by decide) dX1_longestRun_78 (fun H locs hP hD hS => ?_)
                  have hP : rP G rb ri (va_up ra 4 (upd (upd v kk (nI (inn (gc sg (ra 2)) kk ii))) kk (nI ((wf (gc sg (ra 2)) ii) + 1)))) H := hP
                  have hD : va_D A (rW G rb ri (va_up ra 4 (upd (upd v kk (nI (inn (gc sg (ra 2)) kk ii))) kk (nI ((wf (gc sg (ra 2)) ii) + 1))))) := hD.same rfl
                  have hP : rP G rb ri (va_up ra 4 (upd v kk (nI (inn (gc sg (ra 2)) kk (ii + 1))))) H := by rw [show (inn (gc sg (ra 2)) kk (ii + 1)) = wf (gc sg (ra 2)) ii + 1 from (if_pos (by simp only [gc, decide_eq_true_eq]; exact Int32.not_lt.mp c_5)).trans (by omega), ← upd_upd v kk (nI (inn (gc sg (ra 2)) kk ii))]; exact hP
                  have hD : va_D A (rW G rb ri (va_up ra 4 (upd v kk (nI (inn (gc sg (ra 2)) kk (ii + 1)))))) := hD.same rfl
                  refine lv_iinc (v := nI (ii + 1)) (lv' := [(4, .int (nI (ii + 1))), (0, .ref (rb 0)), (1, .int sg), (2, .int (nI (lrun (gc sg (ra 2)) kk))), (3, .int (nI kk))]) hx hb dX1_longestRun_79 hl (k := 4) rfl (nI_incn _) (by decide) rfl (fun ls hl => ?_)
                  refine lv_goto (tgt := 22) hx hb dX1_longestRun_82 (by decide) ?_
                  exact ih_3 (ii + 1) _ _ ls (by omega) (by omega) (hP) (hS) (lv_sub hl [1, 2, 3, 4, 0] rfl)
        exact loop_3 _ 0 _ _ ls (Nat.lt_succ_self _) (Nat.zero_le _) (hP) (hS) (lv_sub hl [1, 2, 3, 4, 0] rfl)
  exact loop_1 _ 0 (ra 4) _ _ ls (Nat.lt_succ_self _) (Nat.zero_le _) (fun x hx => absurd hx (Nat.not_lt_zero _)) (hP) (hS) (lv_sub hl [2, 3, 1, 0] rfl)
abbrev rmX1_findOdd : Room := { frames := 1, cells := 0, slots := 0, locals := 21 }
theorem qdX1_findOdd : yX1_findOdd.cls = RX1 ∧ yX1_findOdd.cls ≠ "java/lang/invoke/MethodHandle" ∧ yX1_findOdd.cls ≠ "java/lang/invoke/VarHandle" ∧ (parseMethodDescriptor yX1_findOdd.desc).map (fun d => d.parameters.length) = some 0 := by decide +kernel
set_option maxHeartbeats 4000000 in
set_option maxRecDepth 100000 in
theorem c_X1_findOdd {l : Launch} {G : gT} {A : Nat → Prop} {rb : Nat → Nat} {ri : Nat → Int32} {ra : Nat → Nat → Int32} {H0 : Heap} {n hn j : Nat} {L T : Nat → Int32} {o : List Nat} (hP : rP G rb ri ra H0) (hD : va_D A (rW G rb ri ra)) (hg : OK n hn L T) (ho : IsOrd (fun s => gL L s 0) n o) (hM : ri 0 = nI (sqL L T o j).length) (hsA : ∀ k, k < (sqL L T o j).length → ra 0 k = nI (sq L T o j k)) (hpA : ∀ k, k < (sqL L T o j).length → ra 1 k = (gL L (sq L T o j k) 0)) (hrA : ∀ k, k < (sqL L T o j).length → ra 2 k = (rr L T o j k)) (hM2 : 2 ≤ (sqL L T o j).length) (hsl : ri 2 = (slp L T o j)) (hba : ri 3 = (bas L T o j)) (hnn : ∀ k, k < (sqL L T o j).length → 0 ≤ (ab (lf L T o j k)).toInt) : WrV G l yX1_findOdd wsX1_findOdd rmX1_findOdd [.ref (rb 0)] H0 A (fun H1 => ∃ v, (∀ k, k < (sqL L T o j).length → v k = (lf L T o j k)) ∧ rP G rb (va_up (va_up ri 1 (nI (sq L T o j (oddI L T o j)))) 4 (lf L T o j (oddI L T o j))) (va_up ra 3 v) H1) := by
  refine x_head (bytes := cX1_findOdd) (maxL := 4) (ret := none) (by decide) rfl (Nat.le_of_ble_eq_true rfl) ?_
  intro p e s m below meth c ls hx hb hml hown hts hr hlk hnm hK hs0 hl Q hQ
  have hl : lv_has ls 4 [(0, .ref (rb 0))] := hl
  have hC : CallFix p m c cX1_findOdd 4 s [.ref (rb 0)].toArray wsX1_findOdd RX1 := ⟨hx, hb, hml, hown, hts⟩
  have k_f48 := hts (.fieldLink RX1 48 "SundogLine$Reckoning" "seen" "I") (by decide +kernel)
  have in_X1 : ∀ w ∈ u_ws RX1 TX1 11, w ∈ wsX1_findOdd := by decide +kernel
  have k_f21 := hts (.fieldLink RX1 21 "SundogLine$Reckoning" "left" "[I") (by decide +kernel)
  have k_f18 := hts (.fieldLink RX1 18 "SundogLine$Reckoning" "readings" "[I") (by decide +kernel)
  have k_f15 := hts (.fieldLink RX1 15 "SundogLine$Reckoning" "places" "[I") (by decide +kernel)
  have k_f39 := hts (.fieldLink RX1 39 "SundogLine$Reckoning" "base" "I") (by decide +kernel)
  have k_m96 := hts (.methodLink RX1 96 Lib.Math.abs.name) (by decide +kernel)
  have k_msabs := hts (.static Lib.Math.abs.name) (by decide +kernel)
  have k_mi := hts (.initialized "java/lang/Math") (by decide +kernel)
  have k_mcabs := hts (.code Lib.Math.abs.name Lib.Math.abs.code 1 (some .int)) (by decide +kernel)
  have k_f9 := hts (.fieldLink RX1 9 "SundogLine$Reckoning" "numbers" "[I") (by decide +kernel)
  have k_f42 := hts (.fieldLink RX1 42 "SundogLine$Reckoning" "odd" "I") (by decide +kernel)
  have k_f45 := hts (.fieldLink RX1 45 "SundogLine$Reckoning" "leftOfOdd" "I") (by decide +kernel)
  have hS : va_S A H0 H0 [] := va_S.rf
  have hn12 := hg.n
  have hh16 := hg.hn
  have hM12 : (sqL L T o j).length ≤ n := sqM_le ho
  refine lv_iconst (v := (-1)) hx hb dX1_findOdd_0 (by decide +kernel) ?_
  refine lv_istore_n (lv' := [(1, .int ((-1))), (0, .ref (rb 0))]) hx hb dX1_findOdd_1 rfl hl (by decide) rfl (fun ls hl => ?_)
  refine lv_iconst (v := nI 0) hx hb dX1_findOdd_2 (by decide +kernel) ?_
  refine lv_istore_n (lv' := [(2, .int (nI 0)), (1, .int ((-1))), (0, .ref (rb 0))]) hx hb dX1_findOdd_3 rfl hl (by decide) rfl (fun ls hl => ?_)
  have hP : rP G rb (va_up (va_up ri 1 (ri 1)) 4 (ri 4)) (va_up ra 3 (ra 3)) H0 := hP
  have hD : va_D A (rW G rb (va_up (va_up ri 1 (ri 1)) 4 (ri 4)) (va_up ra 3 (ra 3))) := hD.same rfl
  have loop_1 : ∀ (fu : Nat) (kk : Nat) (mo : Int32) (od : Int32) (lo : Int32) (v : Nat → Int32) (H : Heap) (locs : List Loc) (ls : Array Slot), (sqL L T o j).length - kk < fu → (kk ≤ (sqL L T o j).length) → (OD (fun k => ab (lf L T o j k)) (fun k => (lf L T o j k)) (sq L T o j) kk mo od lo) → (∀ x, x < kk → v x = (lf L T o j x)) → (va_P (gD G) vC (rW G rb (va_up (va_up ri 1 od) 4 lo) (va_up ra 3 v)) H) → (va_S A H0 H locs) → lv_has ls 4 [(0, .ref (rb 0)), (1, .int mo), (2, .int (nI kk))] → W p l e rmX1_findOdd s m [.ref (rb 0)].toArray below meth c H locs 0 0 Q (F0 m 4 ls []) := by
    intro fu
    induction fu with
    | zero => intro kk mo od lo v H locs ls hms hk hod hv hP hS hl; exact absurd hms (Nat.not_lt_zero _)
    | succ fu ih_1 =>
      intro kk mo od lo v H locs ls hms hk hod hv hP hS hl
      have hD : va_D A (rW G rb (va_up (va_up ri 1 od) 4 lo) (va_up ra 3 v)) := hD.same rfl
      refine lv_iload_n hx hb dX1_findOdd_4 rfl (lv_at hl 2 rfl) ?_
      refine lv_aload_n hx hb dX1_findOdd_5 rfl (lv_at hl 0 rfl) ?_
      refine x_get (T := TX1) (N := 11) (v := .int (nI ((sqL L T o j).length))) hx hb hts in_X1 hown hK (hP 0 _ rfl) rfl 0 (by decide) k_f48 (fun _ h9 => h9) (congrArg (fun z => some (Value.int z)) hM) dX1_findOdd_6 ?_
      refine x_icmp_ge (tgt := 101) hx hb (by omega) (by omega) dX1_findOdd_9 (by decide) (fun c_2 => ?_) (fun c_2 => ?_)
      · have hkM : kk = (sqL L T o j).length := by omega
        rw [hkM] at hod hv
        rcases hod with ⟨z, -⟩ | ⟨-, -, hod1, hod2⟩
        · omega
        rw [hod1, hod2] at hP
        exact x_vret hQ hx hb hr hlk hS.2.2 dX1_findOdd_101 ⟨hS.fr, v, hv, hP⟩
      · have hkl : kk < (sqL L T o j).length := by omega
        refine lv_aload_n hx hb dX1_findOdd_12 rfl (lv_at hl 0 rfl) ?_
        refine x_get (T := TX1) (N := 11) (v := .ref (rb 4)) hx hb hts in_X1 hown hK (hP 0 _ rfl) rfl 8 (by decide) k_f21 (fun _ h9 => h9) (rfl) dX1_findOdd_13 ?_
        refine lv_iload_n hx hb dX1_findOdd_16 rfl (lv_at hl 2 rfl) ?_
        refine lv_aload_n hx hb dX1_findOdd_17 rfl (lv_at hl 0 rfl) ?_
        refine x_get (T := TX1) (N := 11) (v := .ref (rb 3)) hx hb hts in_X1 hown hK (hP 0 _ rfl) rfl 7 (by decide) k_f18 (fun _ h9 => h9) (rfl) dX1_findOdd_18 ?_
        refine lv_iload_n hx hb dX1_findOdd_21 rfl (lv_at hl 2 rfl) ?_
        refine x_ialdN hx hb hK (hP 3 _ rfl) (by omega) (by decide) dX1_findOdd_22 ?_
        refine W.eq (g2 := F0 m 23 ls [.int ((rr L T o j kk)), .int (nI kk), .ref (rb 4)]) (congrArg (fun z => F0 m 23 ls (.int z :: [.int (nI kk), .ref (rb 4)])) (hrA kk hkl)) ?_
        refine lv_aload_n hx hb dX1_findOdd_23 rfl (lv_at hl 0 rfl) ?_
        refine lv_aload_n hx hb dX1_findOdd_24 rfl (lv_at hl 0 rfl) ?_
        refine x_get (T := TX1) (N := 11) (v := .ref (rb 2)) hx hb hts in_X1 hown hK (hP 0 _ rfl) rfl 6 (by decide) k_f15 (fun _ h9 => h9) (rfl) dX1_findOdd_25 ?_
        refine lv_iload_n hx hb dX1_findOdd_28 rfl (lv_at hl 2 rfl) ?_
        refine x_ialdN hx hb hK (hP 2 _ rfl) (by omega) (by decide) dX1_findOdd_29 ?_
        refine W.eq (g2 := F0 m 30 ls [.int ((gL L (sq L T o j kk) 0)), .ref (rb 0), .int ((rr L T o j kk)), .int (nI kk), .ref (rb 4)]) (congrArg (fun z => F0 m 30 ls (.int z :: [.ref (rb 0), .int ((rr L T o j kk)), .int (nI kk), .ref (rb 4)])) (hpA kk hkl)) ?_
        refine x_rd (va_runV (As := [.int ((gL L (sq L T o j kk) 0))]) (rest := [.int ((rr L T o j kk)), .int (nI kk), .ref (rb 4)]) hC (c_X1_riseTo hP) (cwV 1 hts gX1_findOdd_X1_riseTo rfl rfl rfl qdX1_riseTo ⟨Nat.le_of_ble_eq_true rfl, Nat.le_of_ble_eq_true rfl⟩) (x_preV hK (x_recv hK (hP 0 _ rfl) rfl)) rfl rfl hl.1 rfl (lv_room (Nat.le_of_ble_eq_true rfl)) dX1_findOdd_30 ⟨Nat.le_of_ble_eq_true rfl, Nat.le_of_ble_eq_true rfl⟩) ?_
        refine W.eq (g2 := F0 m 33 ls [.int (rise (ri 2) (gL L (sq L T o j kk) 0)), .int ((rr L T o j kk)), .int (nI kk), .ref (rb 4)]) rfl ?_
        refine lv_isub hx hb dX1_findOdd_33 ?_
        refine lv_aload_n hx hb dX1_findOdd_34 rfl (lv_at hl 0 rfl) ?_
        refine x_get (T := TX1) (N := 11) (v := .int (ri 3)) hx hb hts in_X1 hown hK (hP 0 _ rfl) rfl 3 (by decide) k_f39 (fun _ h9 => h9) (rfl) dX1_findOdd_35 ?_
        refine lv_isub hx hb dX1_findOdd_38 ?_
        refine W.eq (g2 := F0 m 39 ls [.int ((lf L T o j kk)), .int (nI kk), .ref (rb 4)]) (congrArg (fun z => F0 m 39 ls (.int z :: [.int (nI kk), .ref (rb 4)])) (by rw [lf, hsl, hba])) ?_
        refine x_iast hx hb hK hP hD hS 4 rfl (by omega) (by decide) dX1_findOdd_39 (fun H locs hP hD hS => ?_)
        have hP : rP G rb (va_up (va_up ri 1 od) 4 lo) (va_up ra 3 (upd v kk (lf L T o j kk))) H := hP
        have hD : va_D A (rW G rb (va_up (va_up ri 1 od) 4 lo) (va_up ra 3 (upd v kk (lf L T o j kk)))) := hD.same rfl
        refine lv_aload_n hx hb dX1_findOdd_40 rfl (lv_at hl 0 rfl) ?_
        refine x_get (T := TX1) (N := 11) (v := .ref (rb 4)) hx hb hts in_X1 hown hK (hP 0 _ rfl) rfl 8 (by decide) k_f21 (fun _ h9 => h9) (rfl) dX1_findOdd_41 ?_
        refine lv_iload_n hx hb dX1_findOdd_44 rfl (lv_at hl 2 rfl) ?_
        refine x_ialdN hx hb hK (hP 4 _ rfl) (by omega) (by decide) dX1_findOdd_45 ?_
        refine W.eq (g2 := F0 m 46 ls [.int ((lf L T o j kk))]) (congrArg (fun z => F0 m 46 ls (.int z :: [])) (pk_us)) ?_
        refine va_mabs hx hb (hml.trans hl.1.symm) hown k_m96 k_msabs k_mi k_mcabs (by decide) (Nat.le_of_ble_eq_true rfl) (Nat.zero_le _) (Nat.zero_le _) dX1_findOdd_46 ?_
        refine W.eq (g2 := F0 m 49 ls [.int (ab (lf L T o j kk))]) rfl ?_
        refine lv_istore_n (lv' := [(3, .int (ab (lf L T o j kk))), (0, .ref (rb 0)), (1, .int mo), (2, .int (nI kk))]) hx hb dX1_findOdd_49 rfl hl (by decide) rfl (fun ls hl => ?_)
        refine lv_iload_n hx hb dX1_findOdd_50 rfl (lv_at hl 0 rfl) ?_
        refine lv_iload_n hx hb dX1_findOdd_51 rfl (lv_at hl 2 rfl) ?_
        refine lv_icmp_gt (tgt := 73) hx hb dX1_findOdd_52 (by decide) (fun c_3 => ?_) (fun c_3 => ?_)
        · refine lv_iload_n hx hb dX1_findOdd_73 rfl (lv_at hl 0 rfl) ?_
          refine lv_istore_n (lv' := [(1, .int (ab (lf L T o j kk))), (3, .int (ab (lf L T o j kk))), (0, .ref (rb 0)), (2, .int (nI kk))]) hx hb dX1_findOdd_74 rfl hl (by decide) rfl (fun ls hl => ?_)
          refine lv_aload_n hx hb dX1_findOdd_75 rfl (lv_at hl 2 rfl) ?_
          refine lv_aload_n hx hb dX1_findOdd_76 rfl (lv_at hl 2 rfl) ?_
          refine x_get (T := TX1) (N := 11) (v := .ref (rb 1)) hx hb hts in_X1 hown hK (hP 0 _ rfl) rfl 5 (by decide) k_f9 (fun _ h9 => h9) (rfl) dX1_findOdd_77 ?_
          refine lv_iload_n hx hb dX1_findOdd_80 rfl (lv_at hl 3 rfl) ?_
          refine x_ialdN hx hb hK (hP 1 _ rfl) (by omega) (by decide) dX1_findOdd_81 ?_
          refine W.eq (g2 := F0 m 82 ls [.int (nI (sq L T o j kk)), .ref (rb 0)]) (congrArg (fun z => F0 m 82 ls (.int z :: [.ref (rb 0)])) (hsA kk hkl)) ?_
          refine va_put (D := gD G) (ci := 1) (v := .int (nI (sq L T o j kk))) (ty := .int) (C := RX1) (T := TX1) (N := 11) hx hb hts in_X1 tyX1 tyX1_ok nmX1 hown hK hP hD hS 0 rfl rfl 1 (by decide) k_f42 (fun _ h9 => h9) rfl (by decide +kernel) rfl rfl (Nat.le_of_ble_eq_true rfl) dX1_findOdd_82 (fun H locs hP hD hS => ?_)
          have hP : rP G rb (va_up (va_up ri 1 (nI (sq L T o j kk))) 4 lo) (va_up ra 3 (upd v kk (lf L T o j kk))) H := hP
          have hD : va_D A (rW G rb (va_up (va_up ri 1 (nI (sq L T o j kk))) 4 lo) (va_up ra 3 (upd v kk (lf L T o j kk)))) := hD.same rfl
          refine lv_aload_n hx hb dX1_findOdd_85 rfl (lv_at hl 2 rfl) ?_
          refine lv_aload_n hx hb dX1_findOdd_86 rfl (lv_at hl 2 rfl) ?_
          refine x_get (T := TX1) (N := 11) (v := .ref (rb 4)) hx hb hts in_X1 hown hK (hP 0 _ rfl) rfl 8 (by decide) k_f21 (fun _ h9 => h9) (rfl) dX1_findOdd_87 ?_
          refine lv_iload_n hx hb dX1_findOdd_90 rfl (lv_at hl 3 rfl) ?_
          refine x_ialdN hx hb hK (hP 4 _ rfl) (by omega) (by decide) dX1_findOdd_91 ?_
          refine W.eq (g2 := F0 m 92 ls [.int ((lf L T o j kk)), .ref (rb 0)]) (congrArg (fun z => F0 m 92 ls (.int z :: [.ref (rb 0)])) (pk_us)) ?_
          refine va_put (D := gD G) (ci := 1) (v := .int ((lf L T o j kk))) (ty := .int) (C := RX1) (T := TX1) (N := 11) hx hb hts in_X1 tyX1 tyX1_ok nmX1 hown hK hP hD hS 0 rfl rfl 4 (by decide) k_f45 (fun _ h9 => h9) rfl (by decide +kernel) rfl rfl (Nat.le_of_ble_eq_true rfl) dX1_findOdd_92 (fun H locs hP hD hS => ?_)
          have hP : rP G rb (va_up (va_up ri 1 (nI (sq L T o j kk))) 4 (lf L T o j kk)) (va_up ra 3 (upd v kk (lf L T o j kk))) H := hP
          have hD : va_D A (rW G rb (va_up (va_up ri 1 (nI (sq L T o j kk))) 4 (lf L T o j kk)) (va_up ra 3 (upd v kk (lf L T o j kk)))) := hD.same rfl
          refine lv_iinc (v := nI (kk + 1)) (lv' := [(2, .int (nI (kk + 1))), (1, .int (ab (lf L T o j kk))), (3, .int (ab (lf L T o j kk))), (0, .ref (rb 0))]) hx hb dX1_findOdd_95 hl (k := 3) rfl (nI_incn _) (by decide) rfl (fun ls hl => ?_)
          refine lv_goto (tgt := 4) hx hb dX1_findOdd_98 (by decide) ?_
          exact ih_1 (kk + 1) (ab (lf L T o j kk)) (nI (sq L T o j kk)) (lf L T o j kk) (upd v kk (lf L T o j kk)) _ _ ls (by omega) (by omega) (od_take hod (fun k hk => hnn k (by omega)) (fun k hk => Nat.lt_of_lt_of_le (sq_lt ho (show k < (sqL L T o j).length by omega)) hn12) (Or.inl c_3)) (upd_all hv rfl) (hP) (hS) (lv_sub hl [3, 1, 0] rfl)
        · refine lv_iload_n hx hb dX1_findOdd_55 rfl (lv_at hl 0 rfl) ?_
          refine lv_iload_n hx hb dX1_findOdd_56 rfl (lv_at hl 2 rfl) ?_
          refine lv_icmp_ne (tgt := 95) hx hb dX1_findOdd_57 (by decide) (fun c_4 => ?_) (fun c_4 => ?_)
          · refine lv_iinc (v := nI (kk + 1)) (lv' := [(2, .int (nI (kk + 1))), (3, .int (ab (lf L T o j kk))), (0, .ref (rb 0)), (1, .int mo)]) hx hb dX1_findOdd_95 hl (k := 3) rfl (nI_incn _) (by decide) rfl (fun ls hl => ?_)
            refine lv_goto (tgt := 4) hx hb dX1_findOdd_98 (by decide) ?_
            exact ih_1 (kk + 1) mo od lo (upd v kk (lf L T o j kk)) _ _ ls (by omega) (by omega) (od_keep hod (fun k hk => hnn k (by omega)) (fun k hk => Nat.lt_of_lt_of_le (sq_lt ho (show k < (sqL L T o j).length by omega)) hn12) c_3 (Or.inl c_4)) (upd_all hv rfl) (hP) (hS) (lv_sub hl [2, 3, 0] rfl)
          · refine lv_aload_n hx hb dX1_findOdd_60 rfl (lv_at hl 1 rfl) ?_
            refine x_get (T := TX1) (N := 11) (v := .ref (rb 1)) hx hb hts in_X1 hown hK (hP 0 _ rfl) rfl 5 (by decide) k_f9 (fun _ h9 => h9) (rfl) dX1_findOdd_61 ?_
            refine lv_iload_n hx hb dX1_findOdd_64 rfl (lv_at hl 3 rfl) ?_
            refine x_ialdN hx hb hK (hP 1 _ rfl) (by omega) (by decide) dX1_findOdd_65 ?_
            refine W.eq (g2 := F0 m 66 ls [.int (nI (sq L T o j kk))]) (congrArg (fun z => F0 m 66 ls (.int z :: [])) (hsA kk hkl)) ?_
            refine lv_aload_n hx hb dX1_findOdd_66 rfl (lv_at hl 1 rfl) ?_
            refine x_get (T := TX1) (N := 11) (v := .int od) hx hb hts in_X1 hown hK (hP 0 _ rfl) rfl 1 (by decide) k_f42 (fun _ h9 => h9) (rfl) dX1_findOdd_67 ?_
            refine lv_icmp_ge (tgt := 95) hx hb dX1_findOdd_70 (by decide) (fun c_5 => ?_) (fun c_5 => ?_)
            · refine lv_iinc (v := nI (kk + 1)) (lv' := [(2, .int (nI (kk + 1))), (3, .int (ab (lf L T o j kk))), (0, .ref (rb 0)), (1, .int mo)]) hx hb dX1_findOdd_95 hl (k := 3) rfl (nI_incn _) (by decide) rfl (fun ls hl => ?_)
              refine lv_goto (tgt := 4) hx hb dX1_findOdd_98 (by decide) ?_
              exact ih_1 (kk + 1) mo od lo (upd v kk (lf L T o j kk)) _ _ ls (by omega) (by omega) (od_keep hod (fun k hk => hnn k (by omega)) (fun k hk => Nat.lt_of_lt_of_le (sq_lt ho (show k < (sqL L T o j).length by omega)) hn12) c_3 (Or.inr c_5)) (upd_all hv rfl) (hP) (hS) (lv_sub hl [2, 3, 0] rfl)
            · refine lv_iload_n hx hb dX1_findOdd_73 rfl (lv_at hl 0 rfl) ?_
              refine lv_istore_n (lv' := [(1, .int (ab (lf L T o j kk))), (3, .int (ab (lf L T o j kk))), (0, .ref (rb 0)), (2, .int (nI kk))]) hx hb dX1_findOdd_74 rfl hl (by decide) rfl (fun ls hl => ?_)
              refine lv_aload_n hx hb dX1_findOdd_75 rfl (lv_at hl 2 rfl) ?_
              refine lv_aload_n hx hb dX1_findOdd_76 rfl (lv_at hl 2 rfl) ?_
              refine x_get (T := TX1) (N := 11) (v := .ref (rb 1)) hx hb hts in_X1 hown hK (hP 0 _ rfl) rfl 5 (by decide) k_f9 (fun _ h9 => h9) (rfl) dX1_findOdd_77 ?_
              refine lv_iload_n hx hb dX1_findOdd_80 rfl (lv_at hl 3 rfl) ?_
              refine x_ialdN hx hb hK (hP 1 _ rfl) (by omega) (by decide) dX1_findOdd_81 ?_
              refine W.eq (g2 := F0 m 82 ls [.int (nI (sq L T o j kk)), .ref (rb 0)]) (congrArg (fun z => F0 m 82 ls (.int z :: [.ref (rb 0)])) (hsA kk hkl)) ?_
              refine va_put (D := gD G) (ci := 1) (v := .int (nI (sq L T o j kk))) (ty := .int) (C := RX1) (T := TX1) (N := 11) hx hb hts in_X1 tyX1 tyX1_ok nmX1 hown hK hP hD hS 0 rfl rfl 1 (by decide) k_f42 (fun _ h9 => h9) rfl (by decide +kernel) rfl rfl (Nat.le_of_ble_eq_true rfl) dX1_findOdd_82 (fun H locs hP hD hS => ?_)
              have hP : rP G rb (va_up (va_up ri 1 (nI (sq L T o j kk))) 4 lo) (va_up ra 3 (upd v kk (lf L T o j kk))) H := hP
              have hD : va_D A (rW G rb (va_up (va_up ri 1 (nI (sq L T o j kk))) 4 lo) (va_up ra 3 (upd v kk (lf L T o j kk)))) := hD.same rfl
              refine lv_aload_n hx hb dX1_findOdd_85 rfl (lv_at hl 2 rfl) ?_
              refine lv_aload_n hx hb dX1_findOdd_86 rfl (lv_at hl 2 rfl) ?_
              refine x_get (T := TX1) (N := 11) (v := .ref (rb 4)) hx hb hts in_X1 hown hK (hP 0 _ rfl) rfl 8 (by decide) k_f21 (fun _ h9 => h9) (rfl) dX1_findOdd_87 ?_
              refine lv_iload_n hx hb dX1_findOdd_90 rfl (lv_at hl 3 rfl) ?_
              refine x_ialdN hx hb hK (hP 4 _ rfl) (by omega) (by decide) dX1_findOdd_91 ?_
              refine W.eq (g2 := F0 m 92 ls [.int ((lf L T o j kk)), .ref (rb 0)]) (congrArg (fun z => F0 m 92 ls (.int z :: [.ref (rb 0)])) (pk_us)) ?_
              refine va_put (D := gD G) (ci := 1) (v := .int ((lf L T o j kk))) (ty := .int) (C := RX1) (T := TX1) (N := 11) hx hb hts in_X1 tyX1 tyX1_ok nmX1 hown hK hP hD hS 0 rfl rfl 4 (by decide) k_f45 (fun _ h9 => h9) rfl (by decide +kernel) rfl rfl (Nat.le_of_ble_eq_true rfl) dX1_findOdd_92 (fun H locs hP hD hS => ?_)
              have hP : rP G rb (va_up (va_up ri 1 (nI (sq L T o j kk))) 4 (lf L T o j kk)) (va_up ra 3 (upd v kk (lf L T o j kk))) H := hP
              have hD : va_D A (rW G rb (va_up (va_up ri 1 (nI (sq L T o j kk))) 4 (lf L T o j kk)) (va_up ra 3 (upd v kk (lf L T o j kk)))) := hD.same rfl
              refine lv_iinc (v := nI (kk + 1)) (lv' := [(2, .int (nI (kk + 1))), (1, .int (ab (lf L T o j kk))), (3, .int (ab (lf L T o j kk))), (0, .ref (rb 0))]) hx hb dX1_findOdd_95 hl (k := 3) rfl (nI_incn _) (by decide) rfl (fun ls hl => ?_)
              refine lv_goto (tgt := 4) hx hb dX1_findOdd_98 (by decide) ?_
              exact ih_1 (kk + 1) (ab (lf L T o j kk)) (nI (sq L T o j kk)) (lf L T o j kk) (upd v kk (lf L T o j kk)) _ _ ls (by omega) (by omega) (od_take hod (fun k hk => hnn k (by omega)) (fun k hk => Nat.lt_of_lt_of_le (sq_lt ho (show k < (sqL L T o j).length by omega)) hn12) (Or.inr ⟨c_4, c_5⟩)) (upd_all hv rfl) (hP) (hS) (lv_sub hl [3, 1, 0] rfl)
  exact loop_1 _ 0 (-1) (ri 1) (ri 4) (ra 3) _ _ ls (Nat.lt_succ_self _) (Nat.zero_le _) (Or.inl ⟨rfl, rfl⟩) (fun x hx => absurd hx (Nat.not_lt_zero _)) (hP) (hS) (lv_sub hl [2, 1, 0] rfl)
