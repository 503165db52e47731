theorem al_stP {G : gT} {A : Nat → Prop} {n hn : Nat} {L T : Nat → Int32} {sa fa ta : Nat → Nat} {F U : Nat → Nat → Int32} {t rd : Int32} {H0 H : Heap} {locs : List Loc} (hP : va_P (gD G) vC (stW (alL L t rd n) sa fa ta n) H) (hst : ∀ i, i < n → stP G L sa fa ta F U i H0) (hg : OK n hn L T) (hS : va_S A H0 H locs) (hfa : ∀ i, i < n → ¬ A (fa i) ∧ ¬ A (ta i)) : ∀ i, i < n → stP G (alL L t rd n) sa fa ta F U i H := fun i hi => by
  obtain ⟨-, h2, h3, h4⟩ := hst i hi
  obtain ⟨a1, a2⟩ := hfa i hi
  have hc := hg.c4 hi
  refine ⟨hP i _ (stW_get hi), va_at.kept h2 (hS.2.1 _ (va_at.lt h2) a1), va_at.kept h3 (hS.2.1 _ (va_at.lt h3) a2), fun k hk => ?_⟩
  have hn' : nc (alL L t rd n) i = nc L i := by unfold nc; rw [alL_ne L t rd (by omega) (by omega) n]
  rw [hn'] at hk
  rw [alL_ne L t rd (by omega) (by omega) n, alL_ne L t rd (by omega) (by omega) n]
  exact h4 k hk
theorem al_cell {L : Nat → Int32} {t rd : Int32} {k f u : Nat} : stO (alL L t rd (k + 1)) k f u = .inr (2, [.int (nI k), .int (gL (alL L t rd k) k 0), .int (gL (alL L t rd k) k 1), .int (gL (alL L t rd k) k 2), .int (unc L k t - rd), .int (gL (alL L t rd k) k 4), .ref f, .ref u]) := by
  have e3 : gL (alL L t rd (k + 1)) k 3 = unc L k t - rd := (alL_3 L t rd (k + 1) (Nat.lt_succ_self k)).trans (i_sub _ _ _)
  have e : ∀ w, w < 13 → w ≠ 3 → gL (alL L t rd (k + 1)) k w = gL (alL L t rd k) k w := fun w hw h3 => by rw [alL_ne L t rd hw h3, alL_ne L t rd hw h3]
  unfold stO
  rw [e3, e 0 (by omega) (by omega), e 1 (by omega) (by omega), e 2 (by omega) (by omega), e 4 (by omega) (by omega)]
abbrev rmX3_setAll : Room := { frames := 3, cells := 0, slots := 0, locals := 64 }
theorem qdX3_setAll : yX3_setAll.cls = RX3 ∧ yX3_setAll.cls ≠ "java/lang/invoke/MethodHandle" ∧ yX3_setAll.cls ≠ "java/lang/invoke/VarHandle" ∧ (parseMethodDescriptor yX3_setAll.desc).map (fun d => d.parameters.length) = some 2 := by decide +kernel
set_option maxHeartbeats 4000000 in
set_option maxRecDepth 100000 in
theorem c_X3_setAll {l : Launch} {G : gT} {A : Nat → Prop} {H0 : Heap} {rl : Nat → Prop} {n hn : Nat} {L T : Nat → Int32} {sa fa ta : Nat → Nat} {F U : Nat → Nat → Int32} {aS aB aH xa rb0 ms9 : Nat} {rd t : Int32} (hxo : pt G xa (.inr (3, [.ref aS, .ref aB, .ref aH, .ref rb0, .ref ms9])) H0) (hlS : alX G rl aS sa n H0) (hrl : ∀ q, rl q → ¬ A q) (hg : OK n hn L T) (hst : ∀ i, i < n → stP G L sa fa ta F U i H0) (hfa : ∀ i, i < n → ¬ A (fa i) ∧ ¬ A (ta i)) (hsaA : ∀ i, i < n → A (sa i)) (hinj : ∀ i j, i < n → j < n → sa i = sa j → i = j) (hxA : ¬ A xa) : WrI G l yX3_setAll wsX3_setAll rmX3_setAll [.ref xa, .int rd, .int t] H0 A (fun r H1 => r = nI (cnt (alD L t rd) n) ∧ ∀ i, i < n → stP G (alL L t rd n) sa fa ta F U i H1) := by
  refine x_head (bytes := cX3_setAll) (maxL := 7) (ret := (some .int)) (by decide) rfl (Nat.le_of_ble_eq_true rfl) ?_
  intro p e s m below meth c ls hx hb hml hown hts hr hlk hnm hK hs0 hl Q hQ
  have hl : lv_has ls 7 [(0, .ref xa), (1, .int rd), (2, .int t)] := hl
  have hC : CallFix p m c cX3_setAll 7 s [.ref xa, .int rd, .int t].toArray wsX3_setAll RX3 := ⟨hx, hb, hml, hown, hts⟩
  have k_f12 := hts (.fieldLink RX3 12 "SundogLine" "stations" "Ljava/util/ArrayList;") (by decide +kernel)
  have in_X3 : ∀ w ∈ u_ws RX3 TX3 5, w ∈ wsX3_setAll := by decide +kernel
  have k_cl51 := hts (.classLink RX3 51 "SundogLine$Station") (by decide +kernel)
  have k_f91 := hts (.fieldLink RX3 91 "SundogLine$Station" "correction" "I") (by decide +kernel)
  have in_X2 : ∀ w ∈ u_ws RX2 TX2 8, w ∈ wsX3_setAll := by decide +kernel
  have hS : va_S A H0 H0 [] := va_S.rf
  have hn12 := hg.n
  have hP : va_P (gD G) vC (stW (alL L t rd 0) sa fa ta n) H0 := stW_P (fun i hi => (hst i hi).1)
  have hD : va_D A (stW (alL L t rd 0) sa fa ta n) := stW_D hsaA hinj
  refine lv_iconst (v := nI 0) hx hb dX3_setAll_0 (by decide +kernel) ?_
  refine lv_istore_n (lv' := [(3, .int (nI 0)), (0, .ref xa), (1, .int rd), (2, .int t)]) hx hb dX3_setAll_1 rfl hl (by decide) rfl (fun ls hl => ?_)
  refine lv_iconst (v := nI 0) hx hb dX3_setAll_2 (by decide +kernel) ?_
  refine lv_istore (lv' := [(4, .int (nI 0)), (3, .int (nI 0)), (0, .ref xa), (1, .int rd), (2, .int t)]) hx hb dX3_setAll_3 hl (by decide) rfl (fun ls hl => ?_)
  have loop_1 : ∀ (fu : Nat) (k : Nat) (H : Heap) (locs : List Loc) (ls : Array Slot), n - k < fu → (k ≤ n) → (va_P (gD G) vC (stW (alL L t rd k) sa fa ta n) H) → (va_S A H0 H locs) → lv_has ls 7 [(0, .ref xa), (1, .int rd), (2, .int t), (3, .int (nI (cnt (alD L t rd) k))), (4, .int (nI k))] → W p l e rmX3_setAll s m [.ref xa, .int rd, .int t].toArray below meth c H locs 0 0 Q (F0 m 5 ls []) := by
    intro fu
    induction fu with
    | zero => intro k H locs ls hms hk hP hS hl; exact absurd hms (Nat.not_lt_zero _)
    | succ fu ih_1 =>
      intro k H locs ls hms hk hP hS hl
      have hD : va_D A (stW (alL L t rd k) sa fa ta n) := stW_D hsaA hinj
      refine lv_iload hx hb dX3_setAll_5 (lv_at hl 4 rfl) ?_
      refine lv_aload_n hx hb dX3_setAll_7 rfl (lv_at hl 0 rfl) ?_
      refine x_get (T := TX3) (N := 5) (v := .ref aS) hx hb hts in_X3 hown hK ((va_at.kept hxo (hS.2.1 _ hxo.lt hxA))) rfl 0 (by decide) k_f12 (fun _ h9 => h9) (rfl) dX3_setAll_8 ?_
      refine x_rd (va_runV (As := []) (rest := [.int (nI k)]) hC (c_size (((hlS.kp (fun q hq hr => hS.2.1 q hq (hrl q hr))).r))) (cwV 0 hts gX3_setAll_Jx4a65c_size_8abf5 rfl rfl rfl qdJx4a65c_size_8abf5 ⟨Nat.le_of_ble_eq_true rfl, Nat.le_of_ble_eq_true rfl⟩) (x_preV hK (alR_recv hK (((hlS.kp (fun q hq hr => hS.2.1 q hq (hrl q hr))).r)))) rfl rfl hl.1 rfl (lv_room (Nat.le_of_ble_eq_true rfl)) dX3_setAll_11 ⟨Nat.le_of_ble_eq_true rfl, Nat.le_of_ble_eq_true rfl⟩) ?_
      refine x_icmp_ge (tgt := 66) hx hb (by omega) (by omega) dX3_setAll_14 (by decide) (fun c_2 => ?_) (fun c_2 => ?_)
      · refine lv_iload_n hx hb dX3_setAll_66 rfl (lv_at hl 3 rfl) ?_
        have hkn9 : k = n := by omega
        rw [hkn9] at hP
        exact x_iret hQ hx hb hr rfl hlk hS.2.2 dX3_setAll_67 ⟨hS.fr, by rw [hkn9], al_stP hP hst hg hS hfa⟩
      · refine lv_aload_n hx hb dX3_setAll_17 rfl (lv_at hl 0 rfl) ?_
        refine x_get (T := TX3) (N := 5) (v := .ref aS) hx hb hts in_X3 hown hK ((va_at.kept hxo (hS.2.1 _ hxo.lt hxA))) rfl 0 (by decide) k_f12 (fun _ h9 => h9) (rfl) dX3_setAll_18 ?_
        refine lv_iload hx hb dX3_setAll_21 (lv_at hl 4 rfl) ?_
        refine x_rd (va_runV (As := [.int (nI k)]) (rest := []) hC (c_get (((hlS.kp (fun q hq hr => hS.2.1 q hq (hrl q hr))).r)) (by omega)) (cwV 1 hts gX3_setAll_Jx4a65c_get_915e3 rfl rfl rfl qdJx4a65c_get_915e3 ⟨Nat.le_of_ble_eq_true rfl, Nat.le_of_ble_eq_true rfl⟩) (x_preV hK (alR_recv hK (((hlS.kp (fun q hq hr => hS.2.1 q hq (hrl q hr))).r)))) rfl rfl hl.1 rfl (lv_room (Nat.le_of_ble_eq_true rfl)) dX3_setAll_23 ⟨Nat.le_of_ble_eq_true rfl, Nat.le_of_ble_eq_true rfl⟩) ?_
        have hkn : k < n := by omega
        have e8 : stO (alL L t rd k) k (fa k) (ta k) = stO L k (fa k) (ta k) := stO_cg (fun w hw => alL_at L t rd (by omega) k (Nat.le_refl _))
        have hsk : stP G L sa fa ta F U k H := ⟨by rw [← e8]; exact hP k _ (stW_get hkn), va_at.kept (hst k hkn).2.1 (hS.2.1 _ (va_at.lt (hst k hkn).2.1) (hfa k hkn).1), va_at.kept (hst k hkn).2.2.1 (hS.2.1 _ (va_at.lt (hst k hkn).2.2.1) (hfa k hkn).2), (hst k hkn).2.2.2⟩
        refine x_cast hx hb hown k_cl51 hK (hsk.1) rfl dX3_setAll_26 ?_
        refine lv_astore (lv' := [(5, .ref (sa k)), (0, .ref xa), (1, .int rd), (2, .int t), (3, .int (nI (cnt (alD L t rd) k))), (4, .int (nI k))]) hx hb dX3_setAll_29 hl (by decide) rfl (fun ls hl => ?_)
        refine lv_aload hx hb dX3_setAll_31 (lv_at hl 0 rfl) ?_
        refine lv_iload_n hx hb dX3_setAll_33 rfl (lv_at hl 2 rfl) ?_
        refine lv_iload_n hx hb dX3_setAll_34 rfl (lv_at hl 3 rfl) ?_
        refine x_rd (va_runV (As := [.int rd, .int t]) (rest := []) hC (c_X2_correctionToRead (hsk)) (cwV 2 hts gX3_setAll_X2_correctionToRead rfl rfl rfl qdX2_correctionToRead ⟨Nat.le_of_ble_eq_true rfl, Nat.le_of_ble_eq_true rfl⟩) (x_preV hK (x_recv hK (hsk.1) rfl)) rfl rfl hl.1 rfl (lv_room (Nat.le_of_ble_eq_true rfl)) dX3_setAll_35 ⟨Nat.le_of_ble_eq_true rfl, Nat.le_of_ble_eq_true rfl⟩) ?_
        refine lv_istore (lv' := [(6, .int (unc L k t - rd)), (5, .ref (sa k)), (0, .ref xa), (1, .int rd), (2, .int t), (3, .int (nI (cnt (alD L t rd) k))), (4, .int (nI k))]) hx hb dX3_setAll_38 hl (by decide) rfl (fun ls hl => ?_)
        refine lv_iload hx hb dX3_setAll_40 (lv_at hl 0 rfl) ?_
        refine lv_aload hx hb dX3_setAll_42 (lv_at hl 1 rfl) ?_
        refine x_get (T := TX2) (N := 8) (v := .int (gL L k 3)) hx hb hts in_X2 hown hK (hsk.1) rfl 4 (by decide) k_f91 (fun _ h9 => h9) (rfl) dX3_setAll_44 ?_
        refine lv_icmp_eq (tgt := 53) hx hb dX3_setAll_47 (by decide) (fun c_3 => ?_) (fun c_3 => ?_)
        · have hl : lv_has ls 7 [(6, .int (unc L k t - rd)), (5, .ref (sa k)), (0, .ref xa), (1, .int rd), (2, .int t), (3, .int (nI (cnt (alD L t rd) (k + 1)))), (4, .int (nI k))] := by
            have e9 : (cnt (alD L t rd) (k + 1)) = (cnt (alD L t rd) k) := by show cnt (alD L t rd) k + (alD L t rd k).toNat = _; rw [show alD L t rd k = false from decide_eq_false (not_not_intro ((i_dif (gL L k 3) (unc L k t) rd).mp c_3))]; rfl
            rw [e9]; exact hl
          refine lv_aload hx hb dX3_setAll_53 (lv_at hl 1 rfl) ?_
          refine lv_iload hx hb dX3_setAll_55 (lv_at hl 0 rfl) ?_
          refine va_put (D := gD G) (ci := 2) (v := .int (unc L k t - rd)) (ty := .int) (C := RX2) (T := TX2) (N := 8) hx hb hts in_X2 tyX2 tyX2_ok nmX2 hown hK hP hD hS k (stW_get hkn) rfl 4 (by decide) k_f91 (fun _ h9 => h9) rfl (by decide +kernel) rfl rfl (Nat.le_of_ble_eq_true rfl) dX3_setAll_57 (fun H locs hP hD hS => ?_)
          have hP : va_P (gD G) vC (stW (alL L t rd (k + 1)) sa fa ta n) H := by rw [← stW_set (L := (alL L t rd k)) (L' := (alL L t rd (k + 1))) hkn (fun i w hi hw => show gL (upd (alL L t rd k) (13 * k + 3) (gL L k 3 + (clk L k t - rd))) i w = gL (alL L t rd k) i w from gL_ne (by omega) (by omega) (Or.inl hi)), al_cell]; exact hP
          have hD : va_D A (stW (alL L t rd (k + 1)) sa fa ta n) := stW_D hsaA hinj
          refine lv_iinc (v := nI (k + 1)) (lv' := [(4, .int (nI (k + 1))), (6, .int (unc L k t - rd)), (5, .ref (sa k)), (0, .ref xa), (1, .int rd), (2, .int t), (3, .int (nI (cnt (alD L t rd) (k + 1))))]) hx hb dX3_setAll_60 hl (k := 6) rfl (nI_incn _) (by decide) rfl (fun ls hl => ?_)
          refine lv_goto (tgt := 5) hx hb dX3_setAll_63 (by decide) ?_
          exact ih_1 (k + 1) _ _ ls (by omega) (by omega) (hP) (hS) (lv_sub hl [3, 4, 5, 6, 0] rfl)
        · refine lv_iinc (v := nI ((cnt (alD L t rd) k) + 1)) (lv' := [(3, .int (nI ((cnt (alD L t rd) k) + 1))), (6, .int (unc L k t - rd)), (5, .ref (sa k)), (0, .ref xa), (1, .int rd), (2, .int t), (4, .int (nI k))]) hx hb dX3_setAll_50 hl (k := 5) rfl (nI_incn _) (by decide) rfl (fun ls hl => ?_)
          have hl : lv_has ls 7 [(3, .int (nI (cnt (alD L t rd) (k + 1)))), (6, .int (unc L k t - rd)), (5, .ref (sa k)), (0, .ref xa), (1, .int rd), (2, .int t), (4, .int (nI k))] := by
            have e9 : (cnt (alD L t rd) (k + 1)) = (cnt (alD L t rd) k) + 1 := by show cnt (alD L t rd) k + (alD L t rd k).toNat = _; rw [show alD L t rd k = true from decide_eq_true (fun z => c_3 ((i_dif (gL L k 3) (unc L k t) rd).mpr z))]; rfl
            rw [e9]; exact hl
          refine lv_aload hx hb dX3_setAll_53 (lv_at hl 2 rfl) ?_
          refine lv_iload hx hb dX3_setAll_55 (lv_at hl 1 rfl) ?_
          refine va_put (D := gD G) (ci := 2) (v := .int (unc L k t - rd)) (ty := .int) (C := RX2) (T := TX2) (N := 8) hx hb hts in_X2 tyX2 tyX2_ok nmX2 hown hK hP hD hS k (stW_get hkn) rfl 4 (by decide) k_f91 (fun _ h9 => h9) rfl (by decide +kernel) rfl rfl (Nat.le_of_ble_eq_true rfl) dX3_setAll_57 (fun H locs hP hD hS => ?_)
          have hP : va_P (gD G) vC (stW (alL L t rd (k + 1)) sa fa ta n) H := by rw [← stW_set (L := (alL L t rd k)) (L' := (alL L t rd (k + 1))) hkn (fun i w hi hw => show gL (upd (alL L t rd k) (13 * k + 3) (gL L k 3 + (clk L k t - rd))) i w = gL (alL L t rd k) i w from gL_ne (by omega) (by omega) (Or.inl hi)), al_cell]; exact hP
          have hD : va_D A (stW (alL L t rd (k + 1)) sa fa ta n) := stW_D hsaA hinj
          refine lv_iinc (v := nI (k + 1)) (lv' := [(4, .int (nI (k + 1))), (3, .int (nI (cnt (alD L t rd) (k + 1)))), (6, .int (unc L k t - rd)), (5, .ref (sa k)), (0, .ref xa), (1, .int rd), (2, .int t)]) hx hb dX3_setAll_60 hl (k := 6) rfl (nI_incn _) (by decide) rfl (fun ls hl => ?_)
          refine lv_goto (tgt := 5) hx hb dX3_setAll_63 (by decide) ?_
          exact ih_1 (k + 1) _ _ ls (by omega) (by omega) (hP) (hS) (lv_sub hl [4, 5, 6, 1, 0] rfl)
  exact loop_1 _ 0 _ _ ls (Nat.lt_succ_self _) (Nat.zero_le _) (hP) (hS) (lv_sub hl [2, 3, 4, 1, 0] rfl)
abbrev rmX3_align : Room := { frames := 6, cells := 1, slots := 6, locals := 90 }
theorem qdX3_align : yX3_align.cls = RX3 ∧ yX3_align.cls ≠ "java/lang/invoke/MethodHandle" ∧ yX3_align.cls ≠ "java/lang/invoke/VarHandle" ∧ (parseMethodDescriptor yX3_align.desc).map (fun d => d.parameters.length) = some 2 := by decide +kernel
set_option maxHeartbeats 4000000 in
set_option maxRecDepth 100000 in
theorem c_X3_align {l : Launch} {G : gT} {A : Nat → Prop} {H0 : Heap} {zA : Nat × Nat} {ro : Nat → Prop} {n hn : Nat} {L T : Nat → Int32} {o : List Nat} {sa fa ta ha : Nat → Nat} {F U : Nat → Nat → Int32} {aS aB aH xa rb0 ms9 : Nat} {x1 x2 : Int32} (hxo : pt G xa (.inr (3, [.ref aS, .ref aB, .ref aH, .ref rb0, .ref ms9])) H0) (hcr : crO G ro n hn L T o sa fa ta ha F U aS aB aH H0) (hg : OK n hn L T) (ho : IsOrd (fun s => gL L s 0) n o) {rl : Nat → Prop} (hlS : alX G rl aS sa n H0) (hrl : ∀ q, rl q → ¬ A q) (hfa : ∀ i, i < n → ¬ A (fa i) ∧ ¬ A (ta i)) (hsaA : ∀ i, i < n → A (sa i)) (hinj : ∀ i j, i < n → j < n → sa i = sa j → i = j) (hxA : ¬ A xa) (hst : l.stackTraces = false) : VzI G zA l yX3_align wsX3_align rmX3_align [.ref xa, .int x1, .int x2] H0 A 1 6 [eIX, eIA, eIS] (k3 (vS n x1) (inR (nI 0) (nI 1000000) x2) (alB L x2 (clk L x1.toNatClampNeg x2) n)) (fun r H1 => r = nI (cnt (alD L x2 (clk L x1.toNatClampNeg x2)) n) ∧ ∀ i, i < n → stP G (alL L x2 (clk L x1.toNatClampNeg x2) n) sa fa ta F U i H1) := by
  refine x_headx (bytes := cX3_align) (maxL := 6) (ret := (some .int)) (by decide) rfl (Nat.le_of_ble_eq_true rfl) ?_
  intro p e s m below meth c ls hx hb hml hown hts hr hlk hnm hK hs0 hl Q hQ hZ hxt
  have hl : lv_has ls 6 [(0, .ref xa), (1, .int x1), (2, .int x2)] := hl
  have hC : CallFix p m c cX3_align 6 s [.ref xa, .int x1, .int x2].toArray wsX3_align RX3 := ⟨hx, hb, hml, hown, hts⟩
  have k_c98 := hts (.constant RX3 98 (1000000)) (by decide +kernel)
  have k_f12 := hts (.fieldLink RX3 12 "SundogLine" "stations" "Ljava/util/ArrayList;") (by decide +kernel)
  have in_X3 : ∀ w ∈ u_ws RX3 TX3 5, w ∈ wsX3_align := by decide +kernel
  have k_cl51 := hts (.classLink RX3 51 "SundogLine$Station") (by decide +kernel)
  have k_c89 := hts (.constant RX3 89 (-100000)) (by decide +kernel)
  have k_c90 := hts (.constant RX3 90 (100000)) (by decide +kernel)
  have k_cl48 := hts (.classLink RX3 48 eIS) (by decide +kernel)
  have k_inieIS := hts (.initialized eIS) (by decide +kernel)
  have at_eIS : ∀ w ∈ (vx_at0 RX3 50 eIS xN).filter goodWord, w ∈ wsX3_align := by decide +kernel
  have k_cl37 := hts (.classLink RX3 37 eIA) (by decide +kernel)
  have k_inieIA := hts (.initialized eIA) (by decide +kernel)
  have at_eIA : ∀ w ∈ (vx_at0 RX3 39 eIA xN).filter goodWord, w ∈ wsX3_align := by decide +kernel
  have k_cl70 := hts (.classLink RX3 70 eIX) (by decide +kernel)
  have k_inieIX := hts (.initialized eIX) (by decide +kernel)
  have at_eIX : ∀ w ∈ (vx_at0 RX3 72 eIX xN).filter goodWord, w ∈ wsX3_align := by decide +kernel
  have hN := hZ.nn
  have hS : va_S A H0 H0 [] := va_S.rf
  have hn12 := hg.n
  have hh16 := hg.hn
  refine lv_aload_n hx hb dX3_align_0 rfl (lv_at hl 0 rfl) ?_
  refine lv_iload_n hx hb dX3_align_1 rfl (lv_at hl 1 rfl) ?_
  refine x_rd (va_runV (As := [.int x1]) (rest := []) hC (c_X3_noStation (hxo) (hcr) hg) (cwV 1 hts gX3_align_X3_noStation rfl rfl rfl qdX3_noStation ⟨Nat.le_of_ble_eq_true rfl, Nat.le_of_ble_eq_true rfl⟩) (x_preV hK (x_recv hK (hxo) rfl)) rfl rfl hl.1 rfl (lv_room (Nat.le_of_ble_eq_true rfl)) dX3_align_2 ⟨Nat.le_of_ble_eq_true rfl, Nat.le_of_ble_eq_true rfl⟩) ?_
  refine x_if_eqB (tgt := 16) hx hb dX3_align_5 (by decide) (fun c_1 => ?_) (fun c_1 => ?_)
  · refine lv_iload_n hx hb dX3_align_16 rfl (lv_at hl 2 rfl) ?_
    refine lv_iconst (v := nI 0) hx hb dX3_align_17 (by decide +kernel) ?_
    refine lv_ldc (v := nI 1000000) hx hb hown k_c98 dX3_align_18 ?_
    refine x_rd (va_runS (As := [.int x2, .int (nI 0), .int (nI 1000000)]) (rest := []) hC (c_X3_outside) (cwS 3 hts gX3_align_X3_outside rfl rfl rfl qdX3_outside ⟨Nat.le_of_ble_eq_true rfl, Nat.le_of_ble_eq_true rfl⟩) (x_preS hK) rfl rfl hl.1 rfl (lv_room (Nat.le_of_ble_eq_true rfl)) dX3_align_20 ⟨Nat.le_of_ble_eq_true rfl, Nat.le_of_ble_eq_true rfl⟩) ?_
    refine x_if_eqB (tgt := 34) hx hb dX3_align_23 (by decide) (fun c_2 => ?_) (fun c_2 => ?_)
    · obtain ⟨i, hi, rfl⟩ := inR_nat (show n < 2 ^ 30 by omega) (bnf c_1)
      refine lv_aload_n hx hb dX3_align_34 rfl (lv_at hl 0 rfl) ?_
      refine x_get (T := TX3) (N := 5) (v := .ref aS) hx hb hts in_X3 hown hK (hxo) rfl 0 (by decide) k_f12 (fun _ h9 => h9) (rfl) dX3_align_35 ?_
      refine lv_iload_n hx hb dX3_align_38 rfl (lv_at hl 1 rfl) ?_
      refine x_rd (va_runV (As := [.int (nI i)]) (rest := []) hC (c_get (hcr.lS) (by omega)) (cwV 1 hts gX3_align_Jx4a65c_get_915e3 rfl rfl rfl qdJx4a65c_get_915e3 ⟨Nat.le_of_ble_eq_true rfl, Nat.le_of_ble_eq_true rfl⟩) (x_preV hK (alR_recv hK (hcr.lS))) rfl rfl hl.1 rfl (lv_room (Nat.le_of_ble_eq_true rfl)) dX3_align_39 ⟨Nat.le_of_ble_eq_true rfl, Nat.le_of_ble_eq_true rfl⟩) ?_
      refine x_cast hx hb hown k_cl51 hK ((hcr.st (show i < n by omega)).1) rfl dX3_align_42 ?_
      refine lv_iload_n hx hb dX3_align_45 rfl (lv_at hl 2 rfl) ?_
      refine x_rd (va_runV (As := [.int x2]) (rest := []) hC (c_X2_readsAt (hcr.st (show i < n by omega))) (cwV 1 hts gX3_align_X2_readsAt rfl rfl rfl qdX2_readsAt ⟨Nat.le_of_ble_eq_true rfl, Nat.le_of_ble_eq_true rfl⟩) (x_preV hK (x_recv hK ((hcr.st (show i < n by omega)).1) rfl)) rfl rfl hl.1 rfl (lv_room (Nat.le_of_ble_eq_true rfl)) dX3_align_46 ⟨Nat.le_of_ble_eq_true rfl, Nat.le_of_ble_eq_true rfl⟩) ?_
      refine lv_istore_n (lv' := [(3, .int (clk L i x2)), (0, .ref xa), (1, .int (nI i)), (2, .int x2)]) hx hb dX3_align_49 rfl hl (by decide) rfl (fun ls hl => ?_)
      refine lv_iconst (v := nI 0) hx hb dX3_align_50 (by decide +kernel) ?_
      refine lv_istore (lv' := [(4, .int (nI 0)), (3, .int (clk L i x2)), (0, .ref xa), (1, .int (nI i)), (2, .int x2)]) hx hb dX3_align_51 hl (by decide) rfl (fun ls hl => ?_)
      have loop_3 : ∀ (fu : Nat) (k : Nat)  (ls : Array Slot), n - k < fu → (k ≤ n) → (alB L x2 (clk L i x2) k = true) → lv_has ls 6 [(0, .ref xa), (1, .int (nI i)), (2, .int x2), (3, .int (clk L i x2)), (4, .int (nI k))] → W p l e rmX3_align s m [.ref xa, .int (nI i), .int x2].toArray below meth c H0 [] 0 0 Q (F0 m 53 ls []) := by
        intro fu
        induction fu with
        | zero => intro k ls hms hk halb hl; exact absurd hms (Nat.not_lt_zero _)
        | succ fu ih_3 =>
          intro k ls hms hk halb hl
          refine lv_iload hx hb dX3_align_53 (lv_at hl 4 rfl) ?_
          refine lv_aload_n hx hb dX3_align_55 rfl (lv_at hl 0 rfl) ?_
          refine x_get (T := TX3) (N := 5) (v := .ref aS) hx hb hts in_X3 hown hK (hxo) rfl 0 (by decide) k_f12 (fun _ h9 => h9) (rfl) dX3_align_56 ?_
          refine x_rd (va_runV (As := []) (rest := [.int (nI k)]) hC (c_size (hcr.lS)) (cwV 0 hts gX3_align_Jx4a65c_size_8abf5 rfl rfl rfl qdJx4a65c_size_8abf5 ⟨Nat.le_of_ble_eq_true rfl, Nat.le_of_ble_eq_true rfl⟩) (x_preV hK (alR_recv hK (hcr.lS))) rfl rfl hl.1 rfl (lv_room (Nat.le_of_ble_eq_true rfl)) dX3_align_59 ⟨Nat.le_of_ble_eq_true rfl, Nat.le_of_ble_eq_true rfl⟩) ?_
          refine x_icmp_ge (tgt := 110) hx hb (by omega) (by omega) dX3_align_62 (by decide) (fun c_4 => ?_) (fun c_4 => ?_)
          · have halb9 : alB L x2 (clk L i x2) n = true := (show k = n by omega) ▸ halb
            refine lv_aload_n hx hb dX3_align_110 rfl (lv_at hl 0 rfl) ?_
            refine lv_iload_n hx hb dX3_align_111 rfl (lv_at hl 3 rfl) ?_
            refine lv_iload_n hx hb dX3_align_112 rfl (lv_at hl 2 rfl) ?_
            refine x_runi (va_runV (As := [.int (clk L i x2), .int x2]) (rest := []) hC (c_X3_setAll (A := A) hxo hlS hrl hg (fun i hi => hcr.st hi) hfa hsaA hinj hxA) (cwV 2 hts gX3_align_X3_setAll rfl rfl rfl qdX3_setAll ⟨Nat.le_of_ble_eq_true rfl, Nat.le_of_ble_eq_true rfl⟩) (x_preV hK (x_recv hK (hxo) rfl)) rfl rfl hl.1 rfl (lv_room (Nat.le_of_ble_eq_true rfl)) dX3_align_113 ⟨Nat.le_of_ble_eq_true rfl, Nat.le_of_ble_eq_true rfl⟩) hS (fun _ h => h) (fun r_5 H locs hfr hΦ hS => ?_)
            have hkk9 : k3 (vS n (nI i)) (inR (nI 0) (nI 1000000) x2) (alB L x2 (clk L (nI i).toNatClampNeg x2) n) = 0 := by simp only [k1, k2, k3, Bool.and_true, Bool.true_and, Bool.and_false, Bool.false_and, Bool.not_true, Bool.not_false, bnf c_1, bnf c_2, nI_clamp (show i < 2 ^ 31 by omega), halb9] <;> rfl
            refine W.widen (k := 1) (n := 6) (Nat.zero_le _) (Nat.zero_le _) ?_
            refine x_vxret hQ ?_
            exact x_iret rfl hx hb hr rfl hlk hS.2.2 dX3_align_116 ⟨hS.fr, hkk9, by rw [nI_clamp (show i < 2 ^ 31 by omega)]; exact hΦ⟩
          · refine lv_aload_n hx hb dX3_align_65 rfl (lv_at hl 0 rfl) ?_
            refine x_get (T := TX3) (N := 5) (v := .ref aS) hx hb hts in_X3 hown hK (hxo) rfl 0 (by decide) k_f12 (fun _ h9 => h9) (rfl) dX3_align_66 ?_
            refine lv_iload hx hb dX3_align_69 (lv_at hl 4 rfl) ?_
            refine x_rd (va_runV (As := [.int (nI k)]) (rest := []) hC (c_get (hcr.lS) (by omega)) (cwV 1 hts gX3_align_Jx4a65c_get_915e3 rfl rfl rfl qdJx4a65c_get_915e3 ⟨Nat.le_of_ble_eq_true rfl, Nat.le_of_ble_eq_true rfl⟩) (x_preV hK (alR_recv hK (hcr.lS))) rfl rfl hl.1 rfl (lv_room (Nat.le_of_ble_eq_true rfl)) dX3_align_71 ⟨Nat.le_of_ble_eq_true rfl, Nat.le_of_ble_eq_true rfl⟩) ?_
            refine x_cast hx hb hown k_cl51 hK ((hcr.st (show k < n by omega)).1) rfl dX3_align_74 ?_
            refine lv_iload_n hx hb dX3_align_77 rfl (lv_at hl 3 rfl) ?_
            refine lv_iload_n hx hb dX3_align_78 rfl (lv_at hl 2 rfl) ?_
            refine x_rd (va_runV (As := [.int (clk L i x2), .int x2]) (rest := []) hC (c_X2_correctionToRead (hcr.st (show k < n by omega))) (cwV 2 hts gX3_align_X2_correctionToRead rfl rfl rfl qdX2_correctionToRead ⟨Nat.le_of_ble_eq_true rfl, Nat.le_of_ble_eq_true rfl⟩) (x_preV hK (x_recv hK ((hcr.st (show k < n by omega)).1) rfl)) rfl rfl hl.1 rfl (lv_room (Nat.le_of_ble_eq_true rfl)) dX3_align_79 ⟨Nat.le_of_ble_eq_true rfl, Nat.le_of_ble_eq_true rfl⟩) ?_
            refine lv_istore (lv' := [(5, .int (unc L k x2 - (clk L i x2))), (0, .ref xa), (1, .int (nI i)), (2, .int x2), (3, .int (clk L i x2)), (4, .int (nI k))]) hx hb dX3_align_82 hl (by decide) rfl (fun ls hl => ?_)
            refine lv_iload hx hb dX3_align_84 (lv_at hl 0 rfl) ?_
            refine lv_ldc (v := (-100000)) hx hb hown k_c89 dX3_align_86 ?_
            refine lv_ldc (v := nI 100000) hx hb hown k_c90 dX3_align_88 ?_
            refine x_rd (va_runS (As := [.int (unc L k x2 - (clk L i x2)), .int ((-100000)), .int (nI 100000)]) (rest := []) hC (c_X3_outside) (cwS 3 hts gX3_align_X3_outside rfl rfl rfl qdX3_outside ⟨Nat.le_of_ble_eq_true rfl, Nat.le_of_ble_eq_true rfl⟩) (x_preS hK) rfl rfl hl.1 rfl (lv_room (Nat.le_of_ble_eq_true rfl)) dX3_align_90 ⟨Nat.le_of_ble_eq_true rfl, Nat.le_of_ble_eq_true rfl⟩) ?_
            refine x_if_eqB (tgt := 104) hx hb dX3_align_93 (by decide) (fun c_6 => ?_) (fun c_6 => ?_)
            · refine lv_iinc (v := nI (k + 1)) (lv' := [(4, .int (nI (k + 1))), (5, .int (unc L k x2 - (clk L i x2))), (0, .ref xa), (1, .int (nI i)), (2, .int x2), (3, .int (clk L i x2))]) hx hb dX3_align_104 hl (k := 5) rfl (nI_incn _) (by decide) rfl (fun ls hl => ?_)
              refine lv_goto (tgt := 53) hx hb dX3_align_107 (by decide) ?_
              exact ih_3 (k + 1) ls (by omega) (by omega) (by show (alB L x2 (clk L i x2) k && inR (-100000) (nI 100000) (alC L k x2 (clk L i x2))) = true; rw [halb, alC_eq, bnf c_6]; rfl) (lv_sub hl [2, 3, 4, 5, 0] rfl)
            · have hkk9 : k3 (vS n (nI i)) (inR (nI 0) (nI 1000000) x2) (alB L x2 (clk L (nI i).toNatClampNeg x2) n) = 3 := by simp only [k1, k2, k3, Bool.and_true, Bool.true_and, Bool.and_false, Bool.false_and, Bool.not_true, Bool.not_false, bnf c_1, bnf c_2, nI_clamp (show i < 2 ^ 31 by omega), (alB_no (k := k) (by rw [alC_eq]; exact bnt c_6) n (by omega) : alB L x2 (clk L i x2) n = false)] <;> rfl
              exact x_throw (cls := eIS) hQ hx hb hst hs0 hZ hS rfl hown (Or.inr (Or.inr rfl)) (by decide) k_cl48 k_inieIS (fun w hw => hts w (at_eIS w hw)) xb_eIS xg_eIS (hl.1.trans hml.symm) dX3_align_96 dX3_align_99 dX3_align_100 dX3_align_103 hxt (Nat.le_of_ble_eq_true rfl) (Nat.le_of_ble_eq_true rfl) (Nat.le_of_ble_eq_true rfl) (Nat.le_of_ble_eq_true rfl) hlk hS.2.2 (by decide) (by decide) (by rw [hkk9]; exact ⟨by decide, rfl⟩)
      exact loop_3 _ 0 ls (Nat.lt_succ_self _) (Nat.zero_le _) (rfl) (lv_sub hl [2, 3, 4, 1, 0] rfl)
    · have hkk9 : k3 (vS n x1) (inR (nI 0) (nI 1000000) x2) (alB L x2 (clk L x1.toNatClampNeg x2) n) = 2 := by simp only [k1, k2, k3, Bool.and_true, Bool.true_and, Bool.and_false, Bool.false_and, Bool.not_true, Bool.not_false, bnf c_1, bnt c_2] <;> rfl
      exact x_throw (cls := eIA) hQ hx hb hst hs0 hZ hS rfl hown (Or.inr (Or.inl rfl)) (by decide) k_cl37 k_inieIA (fun w hw => hts w (at_eIA w hw)) xb_eIA xg_eIA (hl.1.trans hml.symm) dX3_align_26 dX3_align_29 dX3_align_30 dX3_align_33 hxt (Nat.le_of_ble_eq_true rfl) (Nat.le_of_ble_eq_true rfl) (Nat.le_of_ble_eq_true rfl) (Nat.le_of_ble_eq_true rfl) hlk hS.2.2 (by decide) (by decide) (by rw [hkk9]; exact ⟨by decide, rfl⟩)
  · have hkk9 : k3 (vS n x1) (inR (nI 0) (nI 1000000) x2) (alB L x2 (clk L x1.toNatClampNeg x2) n) = 1 := by simp only [k1, k2, k3, Bool.and_true, Bool.true_and, Bool.and_false, Bool.false_and, Bool.not_true, Bool.not_false, bnt c_1] <;> rfl
    exact x_throw (cls := eIX) hQ hx hb hst hs0 hZ hS rfl hown (Or.inl rfl) (by decide) k_cl70 k_inieIX (fun w hw => hts w (at_eIX w hw)) xb_eIX xg_eIX (hl.1.trans hml.symm) dX3_align_8 dX3_align_11 dX3_align_12 dX3_align_15 hxt (Nat.le_of_ble_eq_true rfl) (Nat.le_of_ble_eq_true rfl) (Nat.le_of_ble_eq_true rfl) (Nat.le_of_ble_eq_true rfl) hlk hS.2.2 (by decide) (by decide) (by rw [hkk9]; exact ⟨by decide, rfl⟩)
