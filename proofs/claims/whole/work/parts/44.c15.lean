abbrev rmX3_digestHalo : Room := { frames := 5, cells := 0, slots := 0, locals := 111 }
theorem qdX3_digestHalo : yX3_digestHalo.cls = RX3 ∧ yX3_digestHalo.cls ≠ "java/lang/invoke/MethodHandle" ∧ yX3_digestHalo.cls ≠ "java/lang/invoke/VarHandle" ∧ (parseMethodDescriptor yX3_digestHalo.desc).map (fun d => d.parameters.length) = some 2 := by decide +kernel
set_option maxHeartbeats 4000000 in
set_option maxRecDepth 100000 in
theorem c_X3_digestHalo {l : Launch} {G : gT} {A : Nat → Prop} {H0 : Heap} {ro : Nat → Prop} {n hn : Nat} {L T : Nat → Int32} {o : List Nat} {sa fa ta ha : Nat → Nat} {F U : Nat → Nat → Int32} {aS aB aH xa ms9 : Nat} {rb : Nat → Nat} {ri : Nat → Int32} {ra : Nat → Nat → Int32} {d1 : Int64} {j : Nat} (hxo : pt G xa (.inr (3, [.ref aS, .ref aB, .ref aH, .ref (rb 0), .ref ms9])) H0) (hcr : crO G ro n hn L T o sa fa ta ha F U aS aB aH H0) (hg : OK n hn L T) (ho : IsOrd (fun s => gL L s 0) n o) (hP : rP G rb ri ra H0) (hD : va_D A (rW G rb ri ra)) (hro : ∀ q, ro q → ¬ A q) (hxA : ¬ A xa) (hj : j < hn) : Met l yX3_digestHalo wsX3_digestHalo rmX3_digestHalo (PHn G [.ref xa, .long d1, .ref (ha j)] H0) (QH (oL fun r H1 => fr A H0 H1 ∧ r = dfold (dfold d1 (hv L T o j) 7) (fun s => rdg L T j s) n ∧ ∃ ri1 ra1, rP G rb ri1 ra1 H1)) 0 0 A := by
  refine x_headn (bytes := cX3_digestHalo) (maxL := 7) (ret := (some .long)) (by decide) rfl (Nat.le_of_ble_eq_true rfl) ?_
  intro p e s m below meth c ls hx hb hml hown hts hr hlk hnm hK hs0 hl Q hQ hN
  have hl : lv_has ls 7 [(0, .ref xa), (1, .long d1), (3, .ref (ha j))] := hl
  have hC : CallFix p m c cX3_digestHalo 7 s [.ref xa, .long d1, .ref (ha j)].toArray wsX3_digestHalo RX3 := ⟨hx, hb, hml, hown, hts⟩
  have k_f25 := hts (.fieldLink RX3 25 "SundogLine" "reckoning" "LSundogLine$Reckoning;") (by decide +kernel)
  have in_X3 : ∀ w ∈ u_ws RX3 TX3 5, w ∈ wsX3_digestHalo := by decide +kernel
  have k_f16 := hts (.fieldLink RX3 16 "SundogLine" "byPlace" "Ljava/util/ArrayList;") (by decide +kernel)
  have k_f12 := hts (.fieldLink RX3 12 "SundogLine" "stations" "Ljava/util/ArrayList;") (by decide +kernel)
  have k_c178 := hts (.constantLong RX3 178 (31)) (by decide +kernel)
  have k_cl51 := hts (.classLink RX3 51 "SundogLine$Station") (by decide +kernel)
  have hS : va_S A H0 H0 [] := va_S.rf
  have hn12 := hg.n
  have hh16 := hg.hn
  refine lv_lload_n hx hb dX3_digestHalo_0 rfl (lv_at hl 1 rfl) ?_
  refine lv_lstore (lv' := [(4, .long d1), (0, .ref xa), (1, .long d1), (3, .ref (ha j))]) hx hb dX3_digestHalo_1 hl (by decide) rfl (fun ls hl => ?_)
  refine lv_aload_n hx hb dX3_digestHalo_3 rfl (lv_at hl 1 rfl) ?_
  refine x_get (T := TX3) (N := 5) (v := .ref (rb 0)) hx hb hts in_X3 hown hK ((va_at.kept hxo (hS.2.1 _ hxo.lt hxA))) rfl 3 (by decide) k_f25 (fun _ h9 => h9) (rfl) dX3_digestHalo_4 ?_
  refine lv_aload_n hx hb dX3_digestHalo_7 rfl (lv_at hl 3 rfl) ?_
  refine lv_aload_n hx hb dX3_digestHalo_8 rfl (lv_at hl 1 rfl) ?_
  refine x_get (T := TX3) (N := 5) (v := .ref aB) hx hb hts in_X3 hown hK ((va_at.kept hxo (hS.2.1 _ hxo.lt hxA))) rfl 1 (by decide) k_f16 (fun _ h9 => h9) (rfl) dX3_digestHalo_9 ?_
  refine x_runv (va_runV (As := [.ref (ha j), .ref aB]) (rest := []) hC (c_X1_reckon (A := A) hP hD (hcr.at hS hro) hro hg ho (show j < hn by omega)) (cwV 2 hts gX3_digestHalo_X1_reckon rfl rfl rfl qdX1_reckon ⟨Nat.le_of_ble_eq_true rfl, Nat.le_of_ble_eq_true rfl⟩) (x_preVn hK hN (x_recv hK (hP 0 _ rfl) rfl)) rfl rfl hl.1 rfl (lv_room (Nat.le_of_ble_eq_true rfl)) dX3_digestHalo_12 ⟨Nat.le_of_ble_eq_true rfl, Nat.le_of_ble_eq_true rfl⟩) hS (fun _ h => h) (fun H locs hfr hΦ hS => ?_)
  obtain ⟨rj1, sj1, hk1, hP⟩ := hΦ
  have hP : rP G rb rj1 sj1 H := hP
  have hD : va_D A (rW G rb rj1 sj1) := hD.same rfl
  have hM12 : (sqL L T o j).length ≤ 12 := Nat.le_trans (sqM_le ho) hn12
  refine lv_iconst (v := nI 0) hx hb dX3_digestHalo_15 (by decide +kernel) ?_
  refine lv_istore (lv' := [(6, .int (nI 0)), (4, .long d1), (0, .ref xa), (1, .long d1), (3, .ref (ha j))]) hx hb dX3_digestHalo_16 hl (by decide) rfl (fun ls hl => ?_)
  have loop_2 : ∀ (fu : Nat) (kk : Nat) (rj : Nat → Int32) (sj : Nat → Nat → Int32) (H : Heap) (locs : List Loc) (ls : Array Slot), 7 - kk < fu → (kk ≤ 7) → (RK L T o j rj sj) → (va_P (gD G) vC (rW G rb rj sj) H) → (va_S A H0 H locs) → lv_has ls 7 [(0, .ref xa), (3, .ref (ha j)), (4, .long (dfold d1 (hv L T o j) kk)), (6, .int (nI kk))] → W p l e rmX3_digestHalo s m [.ref xa, .long d1, .ref (ha j)].toArray below meth c H locs 0 0 Q (F0 m 18 ls []) := by
    intro fu
    induction fu with
    | zero => intro kk rj sj H locs ls hms hkk hkr hP hS hl; exact absurd hms (Nat.not_lt_zero _)
    | succ fu ih_2 =>
      intro kk rj sj H locs ls hms hkk hkr hP hS hl
      have hD : va_D A (rW G rb rj sj) := hD.same rfl
      refine lv_iload hx hb dX3_digestHalo_18 (lv_at hl 3 rfl) ?_
      refine lv_bipush (v := nI 7) hx hb dX3_digestHalo_20 (by decide +kernel) ?_
      refine x_icmp_ge (tgt := 50) hx hb (by omega) (by omega) dX3_digestHalo_22 (by decide) (fun c_3 => ?_) (fun c_3 => ?_)
      · have hl : lv_has ls 7 [(0, .ref xa), (3, .ref (ha j)), (4, .long (dfold d1 (hv L T o j) 7)), (6, .int (nI kk))] := by
          have e9 : (dfold d1 (hv L T o j) 7) = (dfold d1 (hv L T o j) kk) := by rw [show kk = 7 by omega]
          rw [e9]; exact hl
        refine lv_iconst (v := nI 0) hx hb dX3_digestHalo_50 (by decide +kernel) ?_
        refine lv_istore (lv' := [(6, .int (nI 0)), (0, .ref xa), (3, .ref (ha j)), (4, .long (dfold d1 (hv L T o j) 7))]) hx hb dX3_digestHalo_51 hl (by decide) rfl (fun ls hl => ?_)
        have loop_4 : ∀ (fu : Nat) (ss : Nat)  (ls : Array Slot), n - ss < fu → (ss ≤ n) → lv_has ls 7 [(0, .ref xa), (3, .ref (ha j)), (4, .long (dfold (dfold d1 (hv L T o j) 7) (fun s => rdg L T j s) ss)), (6, .int (nI ss))] → W p l e rmX3_digestHalo s m [.ref xa, .long d1, .ref (ha j)].toArray below meth c H locs 0 0 Q (F0 m 53 ls []) := by
          intro fu
          induction fu with
          | zero => intro ss ls hms hss hl; exact absurd hms (Nat.not_lt_zero _)
          | succ fu ih_4 =>
            intro ss ls hms hss hl
            refine lv_iload hx hb dX3_digestHalo_53 (lv_at hl 3 rfl) ?_
            refine lv_aload_n hx hb dX3_digestHalo_55 rfl (lv_at hl 0 rfl) ?_
            refine x_get (T := TX3) (N := 5) (v := .ref aS) hx hb hts in_X3 hown hK ((va_at.kept hxo (hS.2.1 _ hxo.lt hxA))) rfl 0 (by decide) k_f12 (fun _ h9 => h9) (rfl) dX3_digestHalo_56 ?_
            refine x_rd (va_runV (As := []) (rest := [.int (nI ss)]) hC (c_size ((hcr.at hS hro).lS)) (cwV 0 hts gX3_digestHalo_Jx4a65c_size_8abf5 rfl rfl rfl qdJx4a65c_size_8abf5 ⟨Nat.le_of_ble_eq_true rfl, Nat.le_of_ble_eq_true rfl⟩) (x_preV hK (alR_recv hK ((hcr.at hS hro).lS))) rfl rfl hl.1 rfl (lv_room (Nat.le_of_ble_eq_true rfl)) dX3_digestHalo_59 ⟨Nat.le_of_ble_eq_true rfl, Nat.le_of_ble_eq_true rfl⟩) ?_
            refine x_icmp_ge (tgt := 97) hx hb (by omega) (by omega) dX3_digestHalo_62 (by decide) (fun c_5 => ?_) (fun c_5 => ?_)
            · refine lv_lload hx hb dX3_digestHalo_97 (lv_at hl 2 rfl) ?_
              exact x_lret hQ hx hb hr hlk hS.2.2 dX3_digestHalo_99 ⟨hS.fr, by rw [show ss = n by omega], _, _, hP⟩
            · refine lv_lload hx hb dX3_digestHalo_65 (lv_at hl 2 rfl) ?_
              refine lv_ldc2 (v := 31) hx hb hown k_c178 dX3_digestHalo_67 ?_
              refine lv_lmul hx hb dX3_digestHalo_70 ?_
              refine lv_aload_n hx hb dX3_digestHalo_71 rfl (lv_at hl 0 rfl) ?_
              refine x_get (T := TX3) (N := 5) (v := .ref aS) hx hb hts in_X3 hown hK ((va_at.kept hxo (hS.2.1 _ hxo.lt hxA))) rfl 0 (by decide) k_f12 (fun _ h9 => h9) (rfl) dX3_digestHalo_72 ?_
              refine lv_iload hx hb dX3_digestHalo_75 (lv_at hl 3 rfl) ?_
              refine x_rd (va_runV (As := [.int (nI ss)]) (rest := [.long ((dfold (dfold d1 (hv L T o j) 7) (fun s => rdg L T j s) ss) * 31)]) hC (c_get ((hcr.at hS hro).lS) (by omega)) (cwV 1 hts gX3_digestHalo_Jx4a65c_get_915e3 rfl rfl rfl qdJx4a65c_get_915e3 ⟨Nat.le_of_ble_eq_true rfl, Nat.le_of_ble_eq_true rfl⟩) (x_preV hK (alR_recv hK ((hcr.at hS hro).lS))) rfl rfl hl.1 rfl (lv_room (Nat.le_of_ble_eq_true rfl)) dX3_digestHalo_77 ⟨Nat.le_of_ble_eq_true rfl, Nat.le_of_ble_eq_true rfl⟩) ?_
              refine x_cast hx hb hown k_cl51 hK (((hcr.at hS hro).st (show ss < n by omega)).1) rfl dX3_digestHalo_80 ?_
              refine lv_aload_n hx hb dX3_digestHalo_83 rfl (lv_at hl 1 rfl) ?_
              refine x_rd (va_runV (As := [.ref (ha j)]) (rest := [.long ((dfold (dfold d1 (hv L T o j) 7) (fun s => rdg L T j s) ss) * 31)]) hC (c_X2_readingOf ((hcr.at hS hro).st (show ss < n by omega)) ((hcr.at hS hro).hal (show j < hn by omega)) (hg.2.1 _ (show ss < n by omega)) (hg.2.2.1 _ (show j < hn by omega))) (cwV 1 hts gX3_digestHalo_X2_readingOf rfl rfl rfl qdX2_readingOf ⟨Nat.le_of_ble_eq_true rfl, Nat.le_of_ble_eq_true rfl⟩) (x_preV hK (x_recv hK (((hcr.at hS hro).st (show ss < n by omega)).1) rfl)) rfl rfl hl.1 rfl (lv_room (Nat.le_of_ble_eq_true rfl)) dX3_digestHalo_84 ⟨Nat.le_of_ble_eq_true rfl, Nat.le_of_ble_eq_true rfl⟩) ?_
              refine lv_i2l (v := (rdg L T j ss).toInt64) hx hb dX3_digestHalo_87 rfl ?_
              refine lv_ladd hx hb dX3_digestHalo_88 ?_
              refine lv_lstore (lv' := [(4, .long (((dfold (dfold d1 (hv L T o j) 7) (fun s => rdg L T j s) ss) * 31) + ((rdg L T j ss).toInt64))), (0, .ref xa), (3, .ref (ha j)), (6, .int (nI ss))]) hx hb dX3_digestHalo_89 hl (by decide) rfl (fun ls hl => ?_)
              refine lv_iinc (v := nI (ss + 1)) (lv' := [(6, .int (nI (ss + 1))), (4, .long (((dfold (dfold d1 (hv L T o j) 7) (fun s => rdg L T j s) ss) * 31) + ((rdg L T j ss).toInt64))), (0, .ref xa), (3, .ref (ha j))]) hx hb dX3_digestHalo_91 hl (k := 3) rfl (nI_incn _) (by decide) rfl (fun ls hl => ?_)
              refine lv_goto (tgt := 53) hx hb dX3_digestHalo_94 (by decide) ?_
              exact ih_4 (ss + 1) ls (by omega) (by omega) (lv_sub hl [2, 3, 1, 0] rfl)
        exact loop_4 _ 0 ls (Nat.lt_succ_self _) (Nat.zero_le _) (lv_sub hl [1, 2, 3, 0] rfl)
      · refine lv_lload hx hb dX3_digestHalo_25 (lv_at hl 2 rfl) ?_
        refine lv_ldc2 (v := 31) hx hb hown k_c178 dX3_digestHalo_27 ?_
        refine lv_lmul hx hb dX3_digestHalo_30 ?_
        refine lv_aload_n hx hb dX3_digestHalo_31 rfl (lv_at hl 0 rfl) ?_
        refine x_get (T := TX3) (N := 5) (v := .ref (rb 0)) hx hb hts in_X3 hown hK ((va_at.kept hxo (hS.2.1 _ hxo.lt hxA))) rfl 3 (by decide) k_f25 (fun _ h9 => h9) (rfl) dX3_digestHalo_32 ?_
        refine lv_iload hx hb dX3_digestHalo_35 (lv_at hl 3 rfl) ?_
        refine x_runi (va_runV (As := [.int (nI kk)]) (rest := [.long ((dfold d1 (hv L T o j) kk) * 31)]) hC (c_X1_tell hP hD hkr hM12 (by omega)) (cwV 1 hts gX3_digestHalo_X1_tell rfl rfl rfl qdX1_tell ⟨Nat.le_of_ble_eq_true rfl, Nat.le_of_ble_eq_true rfl⟩) (x_preV hK (x_recv hK (hP 0 _ rfl) rfl)) rfl rfl hl.1 rfl (lv_room (Nat.le_of_ble_eq_true rfl)) dX3_digestHalo_37 ⟨Nat.le_of_ble_eq_true rfl, Nat.le_of_ble_eq_true rfl⟩) hS (fun _ h => h) (fun r_6 H locs hfr hΦ hS => ?_)
        obtain ⟨er_6, v_7, hP⟩ := hΦ
        have hP : rP G rb rj (va_up sj 4 v_7) H := hP
        have hD : va_D A (rW G rb rj (va_up sj 4 v_7)) := hD.same rfl
        rw [er_6]
        refine lv_i2l (v := (hv L T o j kk).toInt64) hx hb dX3_digestHalo_40 rfl ?_
        refine lv_ladd hx hb dX3_digestHalo_41 ?_
        refine lv_lstore (lv' := [(4, .long (((dfold d1 (hv L T o j) kk) * 31) + ((hv L T o j kk).toInt64))), (0, .ref xa), (3, .ref (ha j)), (6, .int (nI kk))]) hx hb dX3_digestHalo_42 hl (by decide) rfl (fun ls hl => ?_)
        refine lv_iinc (v := nI (kk + 1)) (lv' := [(6, .int (nI (kk + 1))), (4, .long (((dfold d1 (hv L T o j) kk) * 31) + ((hv L T o j kk).toInt64))), (0, .ref xa), (3, .ref (ha j))]) hx hb dX3_digestHalo_44 hl (k := 3) rfl (nI_incn _) (by decide) rfl (fun ls hl => ?_)
        refine lv_goto (tgt := 18) hx hb dX3_digestHalo_47 (by decide) ?_
        exact ih_2 (kk + 1) rj (va_up sj 4 v_7) _ _ ls (by omega) (by omega) (hkr) (hP) (hS) (lv_sub hl [2, 3, 1, 0] rfl)
  exact loop_2 _ 0 rj1 sj1 _ _ ls (Nat.lt_succ_self _) (Nat.zero_le _) (hk1) (hP) (hS) (lv_sub hl [2, 4, 1, 0] rfl)
