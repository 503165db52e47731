abbrev rmX3_blame : Room := { frames := 6, cells := 1, slots := 6, locals := 111 }
theorem qdX3_blame : yX3_blame.cls = RX3 ∧ yX3_blame.cls ≠ "java/lang/invoke/MethodHandle" ∧ yX3_blame.cls ≠ "java/lang/invoke/VarHandle" ∧ (parseMethodDescriptor yX3_blame.desc).map (fun d => d.parameters.length) = some 1 := by decide +kernel
set_option maxHeartbeats 4000000 in
set_option maxRecDepth 100000 in
theorem c_X3_blame {l : Launch} {G : gT} {A : Nat → Prop} {H0 : Heap} {zA : Nat × Nat} {ro : Nat → Prop} {n hn : Nat} {L T : Nat → Int32} {o : List Nat} {sa fa ta ha : Nat → Nat} {F U : Nat → Nat → Int32} {aS aB aH xa ms9 : Nat} {rb : Nat → Nat} {ri : Nat → Int32} {ra : Nat → Nat → Int32} {x1 : Int32} (hxo : pt G xa (.inr (3, [.ref aS, .ref aB, .ref aH, .ref (rb 0), .ref ms9])) H0) (hcr : crO G ro n hn L T o sa fa ta ha F U aS aB aH H0) (hg : OK n hn L T) (ho : IsOrd (fun s => gL L s 0) n o) (hP : rP G rb ri ra H0) (hD : va_D A (rW G rb ri ra)) (hro : ∀ q, ro q → ¬ A q) (hxA : ¬ A xa) (hst : l.stackTraces = false) : VzI G zA l yX3_blame wsX3_blame rmX3_blame [.ref xa, .int x1] H0 A 1 6 [eIX] (k1 (vS n x1)) (fun r H1 => (r = nI (cnt (fun h => blB L T o x1.toNatClampNeg h) hn)) ∧ ∃ ri1 ra1, rP G rb ri1 ra1 H1) := by
  refine x_headx (bytes := cX3_blame) (maxL := 4) (ret := (some .int)) (by decide) rfl (Nat.le_of_ble_eq_true rfl) ?_
  intro p e s m below meth c ls hx hb hml hown hts hr hlk hnm hK hs0 hl Q hQ hZ hxt
  have hl : lv_has ls 4 [(0, .ref xa), (1, .int x1)] := hl
  have hC : CallFix p m c cX3_blame 4 s [.ref xa, .int x1].toArray wsX3_blame RX3 := ⟨hx, hb, hml, hown, hts⟩
  have k_f19 := hts (.fieldLink RX3 19 "SundogLine" "halos" "Ljava/util/ArrayList;") (by decide +kernel)
  have in_X3 : ∀ w ∈ u_ws RX3 TX3 5, w ∈ wsX3_blame := by decide +kernel
  have k_f25 := hts (.fieldLink RX3 25 "SundogLine" "reckoning" "LSundogLine$Reckoning;") (by decide +kernel)
  have k_cl102 := hts (.classLink RX3 102 RX0) (by decide +kernel)
  have k_f16 := hts (.fieldLink RX3 16 "SundogLine" "byPlace" "Ljava/util/ArrayList;") (by decide +kernel)
  have k_f134 := hts (.fieldLink RX3 134 "SundogLine$Reckoning" "seen" "I") (by decide +kernel)
  have in_X1 : ∀ w ∈ u_ws RX1 TX1 11, w ∈ wsX3_blame := by decide +kernel
  have k_f137 := hts (.fieldLink RX3 137 "SundogLine$Reckoning" "odd" "I") (by decide +kernel)
  have k_cl70 := hts (.classLink RX3 70 eIX) (by decide +kernel)
  have k_inieIX := hts (.initialized eIX) (by decide +kernel)
  have at_eIX : ∀ w ∈ (vx_at0 RX3 72 eIX xN).filter goodWord, w ∈ wsX3_blame := by decide +kernel
  have hN := hZ.nn
  have hS : va_S A H0 H0 [] := va_S.rf
  have hn12 := hg.n
  have hh16 := hg.hn
  refine lv_aload_n hx hb dX3_blame_0 rfl (lv_at hl 0 rfl) ?_
  refine lv_iload_n hx hb dX3_blame_1 rfl (lv_at hl 1 rfl) ?_
  refine x_rd (va_runV (As := [.int x1]) (rest := []) hC (c_X3_noStation ((va_at.kept hxo (hS.2.1 _ hxo.lt hxA))) ((hcr.at hS hro)) hg) (cwV 1 hts gX3_blame_X3_noStation rfl rfl rfl qdX3_noStation ⟨Nat.le_of_ble_eq_true rfl, Nat.le_of_ble_eq_true rfl⟩) (x_preV hK (x_recv hK ((va_at.kept hxo (hS.2.1 _ hxo.lt hxA))) rfl)) rfl rfl hl.1 rfl (lv_room (Nat.le_of_ble_eq_true rfl)) dX3_blame_2 ⟨Nat.le_of_ble_eq_true rfl, Nat.le_of_ble_eq_true rfl⟩) ?_
  refine x_if_eqB (tgt := 16) hx hb dX3_blame_5 (by decide) (fun c_1 => ?_) (fun c_1 => ?_)
  · obtain ⟨i, hi, rfl⟩ := inR_nat (show n < 2 ^ 30 by omega) (bnf c_1)
    refine lv_iconst (v := nI 0) hx hb dX3_blame_16 (by decide +kernel) ?_
    refine lv_istore_n (lv' := [(2, .int (nI 0)), (0, .ref xa), (1, .int (nI i))]) hx hb dX3_blame_17 rfl hl (by decide) rfl (fun ls hl => ?_)
    refine lv_iconst (v := nI 0) hx hb dX3_blame_18 (by decide +kernel) ?_
    refine lv_istore_n (lv' := [(3, .int (nI 0)), (2, .int (nI 0)), (0, .ref xa), (1, .int (nI i))]) hx hb dX3_blame_19 rfl hl (by decide) rfl (fun ls hl => ?_)
    have loop_2 : ∀ (fu : Nat) (k : Nat) (rj : Nat → Int32) (sj : Nat → Nat → Int32) (H : Heap) (locs : List Loc) (ls : Array Slot), hn - k < fu → (k ≤ hn) → (va_P (gD G) vC (rW G rb rj sj) H) → (va_S A H0 H locs) → lv_has ls 4 [(0, .ref xa), (1, .int (nI i)), (2, .int (nI (cnt (fun h => blB L T o i h) k))), (3, .int (nI k))] → W p l e rmX3_blame s m [.ref xa, .int (nI i)].toArray below meth c H locs 0 0 Q (F0 m 20 ls []) := by
      intro fu
      induction fu with
      | zero => intro k rj sj H locs ls hms hk hP hS hl; exact absurd hms (Nat.not_lt_zero _)
      | succ fu ih_2 =>
        intro k rj sj H locs ls hms hk hP hS hl
        have hD : va_D A (rW G rb rj sj) := hD.same rfl
        refine lv_iload_n hx hb dX3_blame_20 rfl (lv_at hl 3 rfl) ?_
        refine lv_aload_n hx hb dX3_blame_21 rfl (lv_at hl 0 rfl) ?_
        refine x_get (T := TX3) (N := 5) (v := .ref aH) hx hb hts in_X3 hown hK ((va_at.kept hxo (hS.2.1 _ hxo.lt hxA))) rfl 2 (by decide) k_f19 (fun _ h9 => h9) (rfl) dX3_blame_22 ?_
        refine x_rd (va_runV (As := []) (rest := [.int (nI k)]) hC (c_size ((hcr.at hS hro).lH)) (cwV 0 hts gX3_blame_Jx4a65c_size_8abf5 rfl rfl rfl qdJx4a65c_size_8abf5 ⟨Nat.le_of_ble_eq_true rfl, Nat.le_of_ble_eq_true rfl⟩) (x_preV hK (alR_recv hK ((hcr.at hS hro).lH))) rfl rfl hl.1 rfl (lv_room (Nat.le_of_ble_eq_true rfl)) dX3_blame_25 ⟨Nat.le_of_ble_eq_true rfl, Nat.le_of_ble_eq_true rfl⟩) ?_
        refine x_icmp_ge (tgt := 84) hx hb (by omega) (by omega) dX3_blame_28 (by decide) (fun c_3 => ?_) (fun c_3 => ?_)
        · refine lv_iload_n hx hb dX3_blame_84 rfl (lv_at hl 2 rfl) ?_
          have hkk9 : k1 (vS n (nI i)) = 0 := by simp only [k1, k2, k3, Bool.and_true, Bool.true_and, Bool.and_false, Bool.false_and, Bool.not_true, Bool.not_false, bnf c_1] <;> rfl
          refine W.widen (k := 1) (n := 6) (Nat.zero_le _) (Nat.zero_le _) ?_
          refine x_vxret hQ ?_
          exact x_iret rfl hx hb hr rfl hlk hS.2.2 dX3_blame_85 ⟨hS.fr, hkk9, ⟨by rw [nI_clamp (show i < 2 ^ 31 by omega), show k = hn by omega], _, _, hP⟩⟩
        · refine lv_aload_n hx hb dX3_blame_31 rfl (lv_at hl 0 rfl) ?_
          refine x_get (T := TX3) (N := 5) (v := .ref (rb 0)) hx hb hts in_X3 hown hK ((va_at.kept hxo (hS.2.1 _ hxo.lt hxA))) rfl 3 (by decide) k_f25 (fun _ h9 => h9) (rfl) dX3_blame_32 ?_
          refine lv_aload_n hx hb dX3_blame_35 rfl (lv_at hl 0 rfl) ?_
          refine x_get (T := TX3) (N := 5) (v := .ref aH) hx hb hts in_X3 hown hK ((va_at.kept hxo (hS.2.1 _ hxo.lt hxA))) rfl 2 (by decide) k_f19 (fun _ h9 => h9) (rfl) dX3_blame_36 ?_
          refine lv_iload_n hx hb dX3_blame_39 rfl (lv_at hl 3 rfl) ?_
          refine x_rd (va_runV (As := [.int (nI k)]) (rest := [.ref (rb 0)]) hC (c_get ((hcr.at hS hro).lH) (by omega)) (cwV 1 hts gX3_blame_Jx4a65c_get_915e3 rfl rfl rfl qdJx4a65c_get_915e3 ⟨Nat.le_of_ble_eq_true rfl, Nat.le_of_ble_eq_true rfl⟩) (x_preV hK (alR_recv hK ((hcr.at hS hro).lH))) rfl rfl hl.1 rfl (lv_room (Nat.le_of_ble_eq_true rfl)) dX3_blame_40 ⟨Nat.le_of_ble_eq_true rfl, Nat.le_of_ble_eq_true rfl⟩) ?_
          refine x_cast hx hb hown k_cl102 hK ((hcr.at hS hro).hal (show k < hn by omega)) rfl dX3_blame_43 ?_
          refine lv_aload_n hx hb dX3_blame_46 rfl (lv_at hl 0 rfl) ?_
          refine x_get (T := TX3) (N := 5) (v := .ref aB) hx hb hts in_X3 hown hK ((va_at.kept hxo (hS.2.1 _ hxo.lt hxA))) rfl 1 (by decide) k_f16 (fun _ h9 => h9) (rfl) dX3_blame_47 ?_
          refine x_runv (va_runV (As := [.ref (ha k), .ref aB]) (rest := []) hC (c_X1_reckon (A := A) hP hD (hcr.at hS hro) hro hg ho (show k < hn by omega)) (cwV 2 hts gX3_blame_X1_reckon rfl rfl rfl qdX1_reckon ⟨Nat.le_of_ble_eq_true rfl, Nat.le_of_ble_eq_true rfl⟩) (x_preVn hK hN (x_recv hK (hP 0 _ rfl) rfl)) rfl rfl hl.1 rfl (lv_room (Nat.le_of_ble_eq_true rfl)) dX3_blame_50 ⟨Nat.le_of_ble_eq_true rfl, Nat.le_of_ble_eq_true rfl⟩) hS (fun _ h => h) (fun H locs hfr hΦ hS => ?_)
          obtain ⟨rj4, sj4, hk4, hP⟩ := hΦ
          have hP : rP G rb rj4 sj4 H := hP
          have hD : va_D A (rW G rb rj4 sj4) := hD.same rfl
          have hM12 : (sqL L T o k).length ≤ 12 := Nat.le_trans (sqM_le ho) hn12
          have hsq : 2 < (sqL L T o k).length → sq L T o k (oddI L T o k) < n := fun z => sq_lt ho (oddI_lt (by omega))
          refine lv_aload_n hx hb dX3_blame_53 rfl (lv_at hl 0 rfl) ?_
          refine x_get (T := TX3) (N := 5) (v := .ref (rb 0)) hx hb hts in_X3 hown hK ((va_at.kept hxo (hS.2.1 _ hxo.lt hxA))) rfl 3 (by decide) k_f25 (fun _ h9 => h9) (rfl) dX3_blame_54 ?_
          refine x_get (T := TX1) (N := 11) (v := .int (nI ((sqL L T o k).length))) hx hb hts in_X1 hown hK (hP 0 _ rfl) rfl 0 (by decide) k_f134 (fun _ h9 => h9) (congrArg (fun z => some (Value.int z)) hk4.1.1) dX3_blame_57 ?_
          refine lv_iconst (v := nI 2) hx hb dX3_blame_60 (by decide +kernel) ?_
          refine x_icmp_le (tgt := 78) hx hb (by omega) (by omega) dX3_blame_61 (by decide) (fun c_5 => ?_) (fun c_5 => ?_)
          · have hl : lv_has ls 4 [(0, .ref xa), (1, .int (nI i)), (2, .int (nI (cnt (fun h => blB L T o i h) (k + 1)))), (3, .int (nI k))] := by
              have e9 : (cnt (fun h => blB L T o i h) (k + 1)) = (cnt (fun h => blB L T o i h) k) := by show cnt (fun h => blB L T o i h) k + (blB L T o i k).toNat = _; rw [show blB L T o i k = false from by show (decide (2 < (sqL L T o k).length) && _) = false; rw [decide_eq_false (show ¬ 2 < (sqL L T o k).length by omega)]; rfl]; rfl
              rw [e9]; exact hl
            refine lv_iinc (v := nI (k + 1)) (lv' := [(3, .int (nI (k + 1))), (0, .ref xa), (1, .int (nI i)), (2, .int (nI (cnt (fun h => blB L T o i h) (k + 1))))]) hx hb dX3_blame_78 hl (k := 3) rfl (nI_incn _) (by decide) rfl (fun ls hl => ?_)
            refine lv_goto (tgt := 20) hx hb dX3_blame_81 (by decide) ?_
            exact ih_2 (k + 1) rj4 sj4 _ _ ls (by omega) (by omega) (hP) (hS) (lv_sub hl [1, 2, 3, 0] rfl)
          · refine lv_aload_n hx hb dX3_blame_64 rfl (lv_at hl 0 rfl) ?_
            refine x_get (T := TX3) (N := 5) (v := .ref (rb 0)) hx hb hts in_X3 hown hK ((va_at.kept hxo (hS.2.1 _ hxo.lt hxA))) rfl 3 (by decide) k_f25 (fun _ h9 => h9) (rfl) dX3_blame_65 ?_
            refine x_get (T := TX1) (N := 11) (v := .int ((rj4 1))) hx hb hts in_X1 hown hK (hP 0 _ rfl) rfl 1 (by decide) k_f137 (fun _ h9 => h9) (rfl) dX3_blame_68 ?_
            have hsq := hsq (by omega)
            refine W.eq (g2 := F0 m 71 ls [.int (nI (sq L T o k (oddI L T o k)))]) (congrArg (fun z => F0 m 71 ls (.int z :: [])) (hk4.2.1.2.2.1.trans (show hv L T o k 3 = _ from if_neg (show ¬ (sqL L T o k).length < 2 by omega)))) ?_
            refine lv_iload_n hx hb dX3_blame_71 rfl (lv_at hl 1 rfl) ?_
            refine x_icmp_ne (tgt := 78) hx hb (by omega) (by omega) dX3_blame_72 (by decide) (fun c_6 => ?_) (fun c_6 => ?_)
            · have hl : lv_has ls 4 [(0, .ref xa), (1, .int (nI i)), (2, .int (nI (cnt (fun h => blB L T o i h) (k + 1)))), (3, .int (nI k))] := by
                have e9 : (cnt (fun h => blB L T o i h) (k + 1)) = (cnt (fun h => blB L T o i h) k) := by show cnt (fun h => blB L T o i h) k + (blB L T o i k).toNat = _; rw [show blB L T o i k = false from by show (_ && decide (sq L T o k (oddI L T o k) = i)) = false; rw [decide_eq_false c_6]; exact Bool.and_false _]; rfl
                rw [e9]; exact hl
              refine lv_iinc (v := nI (k + 1)) (lv' := [(3, .int (nI (k + 1))), (0, .ref xa), (1, .int (nI i)), (2, .int (nI (cnt (fun h => blB L T o i h) (k + 1))))]) hx hb dX3_blame_78 hl (k := 3) rfl (nI_incn _) (by decide) rfl (fun ls hl => ?_)
              refine lv_goto (tgt := 20) hx hb dX3_blame_81 (by decide) ?_
              exact ih_2 (k + 1) rj4 sj4 _ _ ls (by omega) (by omega) (hP) (hS) (lv_sub hl [1, 2, 3, 0] rfl)
            · refine lv_iinc (v := nI ((cnt (fun h => blB L T o i h) k) + 1)) (lv' := [(2, .int (nI ((cnt (fun h => blB L T o i h) k) + 1))), (0, .ref xa), (1, .int (nI i)), (3, .int (nI k))]) hx hb dX3_blame_75 hl (k := 2) rfl (nI_incn _) (by decide) rfl (fun ls hl => ?_)
              have hl : lv_has ls 4 [(2, .int (nI (cnt (fun h => blB L T o i h) (k + 1)))), (0, .ref xa), (1, .int (nI i)), (3, .int (nI k))] := by
                have e9 : (cnt (fun h => blB L T o i h) (k + 1)) = (cnt (fun h => blB L T o i h) k) + 1 := by show cnt (fun h => blB L T o i h) k + (blB L T o i k).toNat = _; rw [show blB L T o i k = true from by show (decide (2 < (sqL L T o k).length) && decide (sq L T o k (oddI L T o k) = i)) = true; rw [decide_eq_true (show 2 < (sqL L T o k).length by omega), decide_eq_true c_6]; rfl]; rfl
                rw [e9]; exact hl
              refine lv_iinc (v := nI (k + 1)) (lv' := [(3, .int (nI (k + 1))), (2, .int (nI (cnt (fun h => blB L T o i h) (k + 1)))), (0, .ref xa), (1, .int (nI i))]) hx hb dX3_blame_78 hl (k := 3) rfl (nI_incn _) (by decide) rfl (fun ls hl => ?_)
              refine lv_goto (tgt := 20) hx hb dX3_blame_81 (by decide) ?_
              exact ih_2 (k + 1) rj4 sj4 _ _ ls (by omega) (by omega) (hP) (hS) (lv_sub hl [2, 3, 1, 0] rfl)
    exact loop_2 _ 0 ri ra _ _ ls (Nat.lt_succ_self _) (Nat.zero_le _) (hP) (hS) (lv_sub hl [2, 3, 1, 0] rfl)
  · have hkk9 : k1 (vS n x1) = 1 := by simp only [k1, k2, k3, Bool.and_true, Bool.true_and, Bool.and_false, Bool.false_and, Bool.not_true, Bool.not_false, bnt c_1] <;> rfl
    exact x_throw (cls := eIX) hQ hx hb hst hs0 hZ hS rfl hown (Or.inl rfl) (by decide) k_cl70 k_inieIX (fun w hw => hts w (at_eIX w hw)) xb_eIX xg_eIX (hl.1.trans hml.symm) dX3_blame_8 dX3_blame_11 dX3_blame_12 dX3_blame_15 hxt (Nat.le_of_ble_eq_true rfl) (Nat.le_of_ble_eq_true rfl) (Nat.le_of_ble_eq_true rfl) (Nat.le_of_ble_eq_true rfl) hlk hS.2.2 (by decide) (by decide) (by rw [hkk9]; exact ⟨by decide, rfl⟩)
theorem lsm_cg {f g : Nat → Int32} : ∀ m, (∀ k, k < m → f k = g k) → lsm f m = lsm g m := by
  intro m
  induction m with
  | zero => intro _; rfl
  | succ m ih =>
    intro h
    simp only [lsm]
    rw [ih (fun k hk => h k (by omega)), h m (by omega)]
abbrev rmX3_error : Room := { frames := 6, cells := 1, slots := 6, locals := 111 }
theorem qdX3_error : yX3_error.cls = RX3 ∧ yX3_error.cls ≠ "java/lang/invoke/MethodHandle" ∧ yX3_error.cls ≠ "java/lang/invoke/VarHandle" ∧ (parseMethodDescriptor yX3_error.desc).map (fun d => d.parameters.length) = some 1 := by decide +kernel
set_option maxHeartbeats 4000000 in
set_option maxRecDepth 100000 in
theorem c_X3_error {l : Launch} {G : gT} {A : Nat → Prop} {H0 : Heap} {zA : Nat × Nat} {ro : Nat → Prop} {n hn : Nat} {L T : Nat → Int32} {o : List Nat} {sa fa ta ha : Nat → Nat} {F U : Nat → Nat → Int32} {aS aB aH xa ms9 : Nat} {rb : Nat → Nat} {ri : Nat → Int32} {ra : Nat → Nat → Int32} {x1 : Int32} (hxo : pt G xa (.inr (3, [.ref aS, .ref aB, .ref aH, .ref (rb 0), .ref ms9])) H0) (hcr : crO G ro n hn L T o sa fa ta ha F U aS aB aH H0) (hg : OK n hn L T) (ho : IsOrd (fun s => gL L s 0) n o) (hP : rP G rb ri ra H0) (hD : va_D A (rW G rb ri ra)) (hro : ∀ q, ro q → ¬ A q) (hxA : ¬ A xa) (hdn : noNaN) (hst : l.stackTraces = false) : VzD G zA l yX3_error wsX3_error rmX3_error [.ref xa, .int x1] H0 A 1 6 [eIX] (k1 (vS hn x1)) (fun r H1 => (r = erV L T o x1.toNatClampNeg) ∧ ∃ ri1 ra1, rP G rb ri1 ra1 H1) := by
  refine x_headx (bytes := cX3_error) (maxL := 2) (ret := (some .double)) (by decide) rfl (Nat.le_of_ble_eq_true rfl) ?_
  intro p e s m below meth c ls hx hb hml hown hts hr hlk hnm hK hs0 hl Q hQ hZ hxt
  have hl : lv_has ls 2 [(0, .ref xa), (1, .int x1)] := hl
  have hC : CallFix p m c cX3_error 2 s [.ref xa, .int x1].toArray wsX3_error RX3 := ⟨hx, hb, hml, hown, hts⟩
  have k_f25 := hts (.fieldLink RX3 25 "SundogLine" "reckoning" "LSundogLine$Reckoning;") (by decide +kernel)
  have in_X3 : ∀ w ∈ u_ws RX3 TX3 5, w ∈ wsX3_error := by decide +kernel
  have k_f19 := hts (.fieldLink RX3 19 "SundogLine" "halos" "Ljava/util/ArrayList;") (by decide +kernel)
  have k_cl102 := hts (.classLink RX3 102 RX0) (by decide +kernel)
  have k_f16 := hts (.fieldLink RX3 16 "SundogLine" "byPlace" "Ljava/util/ArrayList;") (by decide +kernel)
  have k_cl70 := hts (.classLink RX3 70 eIX) (by decide +kernel)
  have k_inieIX := hts (.initialized eIX) (by decide +kernel)
  have at_eIX : ∀ w ∈ (vx_at0 RX3 72 eIX xN).filter goodWord, w ∈ wsX3_error := by decide +kernel
  have hN := hZ.nn
  have hS : va_S A H0 H0 [] := va_S.rf
  have hn12 := hg.n
  have hh16 := hg.hn
  refine lv_aload_n hx hb dX3_error_0 rfl (lv_at hl 0 rfl) ?_
  refine lv_iload_n hx hb dX3_error_1 rfl (lv_at hl 1 rfl) ?_
  refine x_rd (va_runV (As := [.int x1]) (rest := []) hC (c_X3_noHalo ((va_at.kept hxo (hS.2.1 _ hxo.lt hxA))) ((hcr.at hS hro)) hg) (cwV 1 hts gX3_error_X3_noHalo rfl rfl rfl qdX3_noHalo ⟨Nat.le_of_ble_eq_true rfl, Nat.le_of_ble_eq_true rfl⟩) (x_preV hK (x_recv hK ((va_at.kept hxo (hS.2.1 _ hxo.lt hxA))) rfl)) rfl rfl hl.1 rfl (lv_room (Nat.le_of_ble_eq_true rfl)) dX3_error_2 ⟨Nat.le_of_ble_eq_true rfl, Nat.le_of_ble_eq_true rfl⟩) ?_
  refine x_if_eqB (tgt := 16) hx hb dX3_error_5 (by decide) (fun c_1 => ?_) (fun c_1 => ?_)
  · obtain ⟨j, hj, rfl⟩ := inR_nat (show hn < 2 ^ 30 by omega) (bnf c_1)
    refine lv_aload_n hx hb dX3_error_16 rfl (lv_at hl 0 rfl) ?_
    refine x_get (T := TX3) (N := 5) (v := .ref (rb 0)) hx hb hts in_X3 hown hK ((va_at.kept hxo (hS.2.1 _ hxo.lt hxA))) rfl 3 (by decide) k_f25 (fun _ h9 => h9) (rfl) dX3_error_17 ?_
    refine lv_aload_n hx hb dX3_error_20 rfl (lv_at hl 0 rfl) ?_
    refine x_get (T := TX3) (N := 5) (v := .ref aH) hx hb hts in_X3 hown hK ((va_at.kept hxo (hS.2.1 _ hxo.lt hxA))) rfl 2 (by decide) k_f19 (fun _ h9 => h9) (rfl) dX3_error_21 ?_
    refine lv_iload_n hx hb dX3_error_24 rfl (lv_at hl 1 rfl) ?_
    refine x_rd (va_runV (As := [.int (nI j)]) (rest := [.ref (rb 0)]) hC (c_get ((hcr.at hS hro).lH) (by omega)) (cwV 1 hts gX3_error_Jx4a65c_get_915e3 rfl rfl rfl qdJx4a65c_get_915e3 ⟨Nat.le_of_ble_eq_true rfl, Nat.le_of_ble_eq_true rfl⟩) (x_preV hK (alR_recv hK ((hcr.at hS hro).lH))) rfl rfl hl.1 rfl (lv_room (Nat.le_of_ble_eq_true rfl)) dX3_error_25 ⟨Nat.le_of_ble_eq_true rfl, Nat.le_of_ble_eq_true rfl⟩) ?_
    refine x_cast hx hb hown k_cl102 hK ((hcr.at hS hro).hal (show j < hn by omega)) rfl dX3_error_28 ?_
    refine lv_aload_n hx hb dX3_error_31 rfl (lv_at hl 0 rfl) ?_
    refine x_get (T := TX3) (N := 5) (v := .ref aB) hx hb hts in_X3 hown hK ((va_at.kept hxo (hS.2.1 _ hxo.lt hxA))) rfl 1 (by decide) k_f16 (fun _ h9 => h9) (rfl) dX3_error_32 ?_
    refine x_runv (va_runV (As := [.ref (ha j), .ref aB]) (rest := []) hC (c_X1_reckon (A := A) hP hD (hcr.at hS hro) hro hg ho (show j < hn by omega)) (cwV 2 hts gX3_error_X1_reckon rfl rfl rfl qdX1_reckon ⟨Nat.le_of_ble_eq_true rfl, Nat.le_of_ble_eq_true rfl⟩) (x_preVn hK hN (x_recv hK (hP 0 _ rfl) rfl)) rfl rfl hl.1 rfl (lv_room (Nat.le_of_ble_eq_true rfl)) dX3_error_35 ⟨Nat.le_of_ble_eq_true rfl, Nat.le_of_ble_eq_true rfl⟩) hS (fun _ h => h) (fun H locs hfr hΦ hS => ?_)
    obtain ⟨rj2, sj2, hk2, hP⟩ := hΦ
    have hP : rP G rb rj2 sj2 H := hP
    have hD : va_D A (rW G rb rj2 sj2) := hD.same rfl
    have hM12 : (sqL L T o j).length ≤ 12 := Nat.le_trans (sqM_le ho) hn12
    refine lv_aload_n hx hb dX3_error_38 rfl (lv_at hl 0 rfl) ?_
    refine x_get (T := TX3) (N := 5) (v := .ref (rb 0)) hx hb hts in_X3 hown hK ((va_at.kept hxo (hS.2.1 _ hxo.lt hxA))) rfl 3 (by decide) k_f25 (fun _ h9 => h9) (rfl) dX3_error_39 ?_
    refine x_rd (va_runV (As := []) (rest := []) hC (c_X1_meanLeft hP hk2.1.1 hM12 hdn) (cwV 0 hts gX3_error_X1_meanLeft rfl rfl rfl qdX1_meanLeft ⟨Nat.le_of_ble_eq_true rfl, Nat.le_of_ble_eq_true rfl⟩) (x_preV hK (x_recv hK (hP 0 _ rfl) rfl)) rfl rfl hl.1 rfl (lv_room (Nat.le_of_ble_eq_true rfl)) dX3_error_42 ⟨Nat.le_of_ble_eq_true rfl, Nat.le_of_ble_eq_true rfl⟩) ?_
    have hkk9 : k1 (vS hn (nI j)) = 0 := by simp only [k1, k2, k3, Bool.and_true, Bool.true_and, Bool.and_false, Bool.false_and, Bool.not_true, Bool.not_false, bnf c_1] <;> rfl
    refine W.widen (k := 1) (n := 6) (Nat.zero_le _) (Nat.zero_le _) ?_
    refine x_vxret hQ ?_
    have hev : (if (sqL L T o j).length < 2 then FP.dconst0 else FP.ddiv (FP.l2d (lsm (fun k => ab (sj2 3 k)) (sqL L T o j).length)) (FP.i2d (nI (sqL L T o j).length))) = erV L T o j := by
      unfold erV
      by_cases c9 : (sqL L T o j).length < 2
      · rw [if_pos c9, if_pos (show sqM L T o j < 2 from c9)]
      · rw [if_neg c9, if_neg (show ¬ sqM L T o j < 2 from c9), lsm_cg (sqL L T o j).length (fun k hk => congrArg ab (hk2.2.2 (by omega) k hk))]
    exact x_dret rfl hx hb hr hlk hS.2.2 dX3_error_45 ⟨hS.fr, hkk9, ⟨hev.trans (by rw [nI_clamp (show j < 2 ^ 31 by omega)]), _, _, hP⟩⟩
  · have hkk9 : k1 (vS hn x1) = 1 := by simp only [k1, k2, k3, Bool.and_true, Bool.true_and, Bool.and_false, Bool.false_and, Bool.not_true, Bool.not_false, bnt c_1] <;> rfl
    exact x_throw (cls := eIX) hQ hx hb hst hs0 hZ hS rfl hown (Or.inl rfl) (by decide) k_cl70 k_inieIX (fun w hw => hts w (at_eIX w hw)) xb_eIX xg_eIX (hl.1.trans hml.symm) dX3_error_8 dX3_error_11 dX3_error_12 dX3_error_15 hxt (Nat.le_of_ble_eq_true rfl) (Nat.le_of_ble_eq_true rfl) (Nat.le_of_ble_eq_true rfl) (Nat.le_of_ble_eq_true rfl) hlk hS.2.2 (by decide) (by decide) (by rw [hkk9]; exact ⟨by decide, rfl⟩)
