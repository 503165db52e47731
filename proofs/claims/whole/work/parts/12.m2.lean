abbrev rmX4_along : Room := { frames := 1, cells := 0, slots := 0, locals := 22 }
theorem qdX4_along : yX4_along.cls = RX4 ∧ yX4_along.cls ≠ "java/lang/invoke/MethodHandle" ∧ yX4_along.cls ≠ "java/lang/invoke/VarHandle" ∧ (parseMethodDescriptor yX4_along.desc).map (fun d => d.parameters.length) = some 1 := by decide +kernel
set_option maxHeartbeats 4000000 in
set_option maxRecDepth 100000 in
theorem c_X4_along {l : Launch} {G : gT} {b : Nat → Nat} {mi : Nat → Int32} {ma : Nat → Nat → Int32} {H : Heap} {i : Nat} (hP : mP G b mi ma H) (hi : i < 12) : Rd G l yX4_along wsX4_along rmX4_along [.ref (b 0), .int (nI i)] H (.int (rise (mi 4) (gL (ma 0) i 0))) := by
  refine x_head (bytes := cX4_along) (maxL := 2) (ret := (some .int)) (by decide) rfl (Nat.le_of_ble_eq_true rfl) ?_
  intro p e s m below meth c ls hx hb hml hown hts hr hlk hnm hK hs0 hl Q hQ
  have hl : lv_has ls 2 [(0, .ref (b 0)), (1, .int (nI i))] := hl
  have hC : CallFix p m c cX4_along 2 s [.ref (b 0), .int (nI i)].toArray wsX4_along RX4 := ⟨hx, hb, hml, hown, hts⟩
  have k_f98 := hts (.fieldLink RX4 98 "SundogLineModel" "slope" "I") (by decide +kernel)
  have in_X4 : ∀ w ∈ u_ws RX4 TX4 11, w ∈ wsX4_along := by decide +kernel
  have k_c101 := hts (.constantLong RX4 101 (100)) (by decide +kernel)
  refine lv_aload_n hx hb dX4_along_0 rfl (lv_at hl 0 rfl) ?_
  refine x_get (T := TX4) (N := 11) (v := .int (mi 4)) hx hb hts in_X4 hown hK (hP 0 _ rfl) rfl 8 (by decide) k_f98 (fun _ h9 => h9) (rfl) dX4_along_1 ?_
  refine lv_i2l (v := (mi 4).toInt64) hx hb dX4_along_4 rfl ?_
  refine lv_aload_n hx hb dX4_along_5 rfl (lv_at hl 0 rfl) ?_
  refine lv_iload_n hx hb dX4_along_6 rfl (lv_at hl 1 rfl) ?_
  refine lv_iconst (v := nI 0) hx hb dX4_along_7 (by decide +kernel) ?_
  refine x_rd (va_runV (As := [.int (nI i), .int (nI 0)]) (rest := [.long ((mi 4).toInt64)]) hC (c_X4_get hP (by omega) (by omega)) (cwV 2 hts gX4_along_X4_get rfl rfl rfl qdX4_get ⟨Nat.le_of_ble_eq_true rfl, Nat.le_of_ble_eq_true rfl⟩) (x_preV hK (x_recv hK (hP 0 _ rfl) rfl)) rfl rfl hl.1 rfl (lv_room (Nat.le_of_ble_eq_true rfl)) dX4_along_8 ⟨Nat.le_of_ble_eq_true rfl, Nat.le_of_ble_eq_true rfl⟩) ?_
  refine lv_i2l (v := (gL (ma 0) i 0).toInt64) hx hb dX4_along_11 rfl ?_
  refine lv_lmul hx hb dX4_along_12 ?_
  refine lv_ldc2 (v := 100) hx hb hown k_c101 dX4_along_13 ?_
  refine lv_ldiv hx hb dX4_along_16 (by decide) ?_
  refine lv_l2i (v := ((((mi 4).toInt64) * ((gL (ma 0) i 0).toInt64)) / 100).toInt32) hx hb dX4_along_17 rfl ?_
  exact x_rdi hQ hx hb hr rfl hlk (rfl) dX4_along_18
abbrev rmX4_left : Room := { frames := 2, cells := 0, slots := 0, locals := 43 }
theorem qdX4_left : yX4_left.cls = RX4 ∧ yX4_left.cls ≠ "java/lang/invoke/MethodHandle" ∧ yX4_left.cls ≠ "java/lang/invoke/VarHandle" ∧ (parseMethodDescriptor yX4_left.desc).map (fun d => d.parameters.length) = some 1 := by decide +kernel
set_option maxHeartbeats 4000000 in
set_option maxRecDepth 100000 in
theorem c_X4_left {l : Launch} {G : gT} {b : Nat → Nat} {mi : Nat → Int32} {ma : Nat → Nat → Int32} {H : Heap} {q : Nat → Nat} {k : Nat} (hP : mP G b mi ma H) (hk : k < 12) (hq : ma 2 k = nI (q k)) (hq12 : q k < 12) : Rd G l yX4_left wsX4_left rmX4_left [.ref (b 0), .int (nI k)] H (.int (lfv mi ma q k)) := by
  refine x_head (bytes := cX4_left) (maxL := 2) (ret := (some .int)) (by decide) rfl (Nat.le_of_ble_eq_true rfl) ?_
  intro p e s m below meth c ls hx hb hml hown hts hr hlk hnm hK hs0 hl Q hQ
  have hl : lv_has ls 2 [(0, .ref (b 0)), (1, .int (nI k))] := hl
  have hC : CallFix p m c cX4_left 2 s [.ref (b 0), .int (nI k)].toArray wsX4_left RX4 := ⟨hx, hb, hml, hown, hts⟩
  have k_f19 := hts (.fieldLink RX4 19 "SundogLineModel" "readings" "[I") (by decide +kernel)
  have in_X4 : ∀ w ∈ u_ws RX4 TX4 11, w ∈ wsX4_left := by decide +kernel
  have k_f16 := hts (.fieldLink RX4 16 "SundogLineModel" "seers" "[I") (by decide +kernel)
  have k_f109 := hts (.fieldLink RX4 109 "SundogLineModel" "base" "I") (by decide +kernel)
  refine lv_aload_n hx hb dX4_left_0 rfl (lv_at hl 0 rfl) ?_
  refine x_get (T := TX4) (N := 11) (v := .ref (b 4)) hx hb hts in_X4 hown hK (hP 0 _ rfl) rfl 6 (by decide) k_f19 (fun _ h9 => h9) (rfl) dX4_left_1 ?_
  refine lv_iload_n hx hb dX4_left_4 rfl (lv_at hl 1 rfl) ?_
  refine x_ialdN hx hb hK (hP 4 _ rfl) (by omega) (by decide) dX4_left_5 ?_
  refine lv_aload_n hx hb dX4_left_6 rfl (lv_at hl 0 rfl) ?_
  refine lv_aload_n hx hb dX4_left_7 rfl (lv_at hl 0 rfl) ?_
  refine x_get (T := TX4) (N := 11) (v := .ref (b 3)) hx hb hts in_X4 hown hK (hP 0 _ rfl) rfl 5 (by decide) k_f16 (fun _ h9 => h9) (rfl) dX4_left_8 ?_
  refine lv_iload_n hx hb dX4_left_11 rfl (lv_at hl 1 rfl) ?_
  refine x_ialdN hx hb hK (hP 3 _ rfl) (by omega) (by decide) dX4_left_12 ?_
  refine W.eq (g2 := F0 m 13 ls [.int (nI (q k)), .ref (b 0), .int ((ma 3) k)]) (congrArg (fun z => F0 m 13 ls (.int z :: [.ref (b 0), .int ((ma 3) k)])) (hq)) ?_
  refine x_rd (va_runV (As := [.int (nI (q k))]) (rest := [.int ((ma 3) k)]) hC (c_X4_along hP (by omega)) (cwV 1 hts gX4_left_X4_along rfl rfl rfl qdX4_along ⟨Nat.le_of_ble_eq_true rfl, Nat.le_of_ble_eq_true rfl⟩) (x_preV hK (x_recv hK (hP 0 _ rfl) rfl)) rfl rfl hl.1 rfl (lv_room (Nat.le_of_ble_eq_true rfl)) dX4_left_13 ⟨Nat.le_of_ble_eq_true rfl, Nat.le_of_ble_eq_true rfl⟩) ?_
  refine lv_isub hx hb dX4_left_16 ?_
  refine lv_aload_n hx hb dX4_left_17 rfl (lv_at hl 0 rfl) ?_
  refine x_get (T := TX4) (N := 11) (v := .int (mi 5)) hx hb hts in_X4 hown hK (hP 0 _ rfl) rfl 9 (by decide) k_f109 (fun _ h9 => h9) (rfl) dX4_left_18 ?_
  refine lv_isub hx hb dX4_left_21 ?_
  exact x_rdi hQ hx hb hr rfl hlk (rfl) dX4_left_22
abbrev rmX4_guessOf : Room := { frames := 2, cells := 0, slots := 0, locals := 43 }
theorem qdX4_guessOf : yX4_guessOf.cls = RX4 ∧ yX4_guessOf.cls ≠ "java/lang/invoke/MethodHandle" ∧ yX4_guessOf.cls ≠ "java/lang/invoke/VarHandle" ∧ (parseMethodDescriptor yX4_guessOf.desc).map (fun d => d.parameters.length) = some 1 := by decide +kernel
set_option maxHeartbeats 4000000 in
set_option maxRecDepth 100000 in
theorem c_X4_guessOf {l : Launch} {G : gT} {b : Nat → Nat} {mi : Nat → Int32} {ma : Nat → Nat → Int32} {H : Heap} {M i : Nat} (hP : mP G b mi ma H) (hi : i < 12) (hM : mi 3 = nI M) (hM12 : M ≤ 12) : Rd G l yX4_guessOf wsX4_guessOf rmX4_guessOf [.ref (b 0), .int (nI i)] H (.int (if M < 2 then (-1000000) else mi 5 + rise (mi 4) (gL (ma 0) i 0))) := by
  refine x_head (bytes := cX4_guessOf) (maxL := 2) (ret := (some .int)) (by decide) rfl (Nat.le_of_ble_eq_true rfl) ?_
  intro p e s m below meth c ls hx hb hml hown hts hr hlk hnm hK hs0 hl Q hQ
  have hl : lv_has ls 2 [(0, .ref (b 0)), (1, .int (nI i))] := hl
  have hC : CallFix p m c cX4_guessOf 2 s [.ref (b 0), .int (nI i)].toArray wsX4_guessOf RX4 := ⟨hx, hb, hml, hown, hts⟩
  have k_f103 := hts (.fieldLink RX4 103 "SundogLineModel" "many" "I") (by decide +kernel)
  have in_X4 : ∀ w ∈ u_ws RX4 TX4 11, w ∈ wsX4_guessOf := by decide +kernel
  have k_f109 := hts (.fieldLink RX4 109 "SundogLineModel" "base" "I") (by decide +kernel)
  have k_c91 := hts (.constant RX4 91 (-1000000)) (by decide +kernel)
  refine lv_aload_n hx hb dX4_guessOf_0 rfl (lv_at hl 0 rfl) ?_
  refine x_get (T := TX4) (N := 11) (v := .int (nI M)) hx hb hts in_X4 hown hK (hP 0 _ rfl) rfl 7 (by decide) k_f103 (fun _ h9 => h9) (congrArg (fun z => some (Value.int z)) hM) dX4_guessOf_1 ?_
  refine lv_iconst (v := nI 2) hx hb dX4_guessOf_4 (by decide +kernel) ?_
  refine x_icmp_ge (tgt := 13) hx hb (by omega) (by omega) dX4_guessOf_5 (by decide) (fun c_1 => ?_) (fun c_1 => ?_)
  · refine lv_aload_n hx hb dX4_guessOf_13 rfl (lv_at hl 0 rfl) ?_
    refine x_get (T := TX4) (N := 11) (v := .int (mi 5)) hx hb hts in_X4 hown hK (hP 0 _ rfl) rfl 9 (by decide) k_f109 (fun _ h9 => h9) (rfl) dX4_guessOf_14 ?_
    refine lv_aload_n hx hb dX4_guessOf_17 rfl (lv_at hl 0 rfl) ?_
    refine lv_iload_n hx hb dX4_guessOf_18 rfl (lv_at hl 1 rfl) ?_
    refine x_rd (va_runV (As := [.int (nI i)]) (rest := [.int (mi 5)]) hC (c_X4_along hP (by omega)) (cwV 1 hts gX4_guessOf_X4_along rfl rfl rfl qdX4_along ⟨Nat.le_of_ble_eq_true rfl, Nat.le_of_ble_eq_true rfl⟩) (x_preV hK (x_recv hK (hP 0 _ rfl) rfl)) rfl rfl hl.1 rfl (lv_room (Nat.le_of_ble_eq_true rfl)) dX4_guessOf_19 ⟨Nat.le_of_ble_eq_true rfl, Nat.le_of_ble_eq_true rfl⟩) ?_
    refine lv_iadd hx hb dX4_guessOf_22 ?_
    exact x_rdi hQ hx hb hr rfl hlk (by rw [if_neg (by omega)]) dX4_guessOf_23
  · refine lv_ldc (v := (-1000000)) hx hb hown k_c91 dX4_guessOf_8 ?_
    refine lv_goto (tgt := 23) hx hb dX4_guessOf_10 (by decide) ?_
    exact x_rdi hQ hx hb hr rfl hlk (by rw [if_pos c_1]) dX4_guessOf_23
abbrev rmX4_odd : Room := { frames := 3, cells := 0, slots := 0, locals := 64 }
theorem qdX4_odd : yX4_odd.cls = RX4 ∧ yX4_odd.cls ≠ "java/lang/invoke/MethodHandle" ∧ yX4_odd.cls ≠ "java/lang/invoke/VarHandle" ∧ (parseMethodDescriptor yX4_odd.desc).map (fun d => d.parameters.length) = some 0 := by decide +kernel
set_option maxHeartbeats 4000000 in
set_option maxRecDepth 100000 in
theorem c_X4_odd {l : Launch} {G : gT} {b : Nat → Nat} {mi : Nat → Int32} {ma : Nat → Nat → Int32} {H : Heap} {M : Nat} {q : Nat → Nat} (hP : mP G b mi ma H) (hM : mi 3 = nI M) (hM12 : M ≤ 12) (hM1 : 1 ≤ M) (hq : ∀ k, k < M → ma 2 k = nI (q k)) (hq12 : ∀ k, k < M → q k < 12) : Rd G l yX4_odd wsX4_odd rmX4_odd [.ref (b 0)] H (.int (nI (ob (fun k => ab (lfv mi ma q k)) q M))) := by
  refine x_head (bytes := cX4_odd) (maxL := 4) (ret := (some .int)) (by decide) rfl (Nat.le_of_ble_eq_true rfl) ?_
  intro p e s m below meth c ls hx hb hml hown hts hr hlk hnm hK hs0 hl Q hQ
  have hl : lv_has ls 4 [(0, .ref (b 0))] := hl
  have hC : CallFix p m c cX4_odd 4 s [.ref (b 0)].toArray wsX4_odd RX4 := ⟨hx, hb, hml, hown, hts⟩
  have k_f103 := hts (.fieldLink RX4 103 "SundogLineModel" "many" "I") (by decide +kernel)
  have in_X4 : ∀ w ∈ u_ws RX4 TX4 11, w ∈ wsX4_odd := by decide +kernel
  have k_m83 := hts (.methodLink RX4 83 Lib.Math.abs.name) (by decide +kernel)
  have k_msabs := hts (.static Lib.Math.abs.name) (by decide +kernel)
  have k_mi := hts (.initialized "java/lang/Math") (by decide +kernel)
  have k_mcabs := hts (.code Lib.Math.abs.name Lib.Math.abs.code 1 (some .int)) (by decide +kernel)
  have k_f16 := hts (.fieldLink RX4 16 "SundogLineModel" "seers" "[I") (by decide +kernel)
  refine lv_iconst (v := nI 0) hx hb dX4_odd_0 (by decide +kernel) ?_
  refine lv_istore_n (lv' := [(1, .int (nI 0)), (0, .ref (b 0))]) hx hb dX4_odd_1 rfl hl (by decide) rfl (fun ls hl => ?_)
  refine lv_iconst (v := nI 1) hx hb dX4_odd_2 (by decide +kernel) ?_
  refine lv_istore_n (lv' := [(2, .int (nI 1)), (1, .int (nI 0)), (0, .ref (b 0))]) hx hb dX4_odd_3 rfl hl (by decide) rfl (fun ls hl => ?_)
  have hl : lv_has ls 4 [(2, .int (nI 1)), (1, .int (nI (ob (fun k => ab (lfv mi ma q k)) q 1))), (0, .ref (b 0))] := by
    have e9 : (ob (fun k => ab (lfv mi ma q k)) q 1) = 0 := ob_1 _ _
    rw [e9]; exact hl
  have loop_1 : ∀ (fu : Nat) (k : Nat)  (ls : Array Slot), M - k < fu → (0 < k) → (k ≤ M) → lv_has ls 4 [(0, .ref (b 0)), (1, .int (nI (ob (fun k => ab (lfv mi ma q k)) q k))), (2, .int (nI k))] → W p l e rmX4_odd s m [.ref (b 0)].toArray below meth c H [] 0 0 Q (F0 m 4 ls []) := by
    intro fu
    induction fu with
    | zero => intro k ls hms hk1 hk hl; exact absurd hms (Nat.not_lt_zero _)
    | succ fu ih_1 =>
      intro k ls hms hk1 hk hl
      have hob : ob (fun k => ab (lfv mi ma q k)) q k < k := ob_lt _ _ k hk1
      refine lv_iload_n hx hb dX4_odd_4 rfl (lv_at hl 2 rfl) ?_
      refine lv_aload_n hx hb dX4_odd_5 rfl (lv_at hl 0 rfl) ?_
      refine x_get (T := TX4) (N := 11) (v := .int (nI M)) hx hb hts in_X4 hown hK (hP 0 _ rfl) rfl 7 (by decide) k_f103 (fun _ h9 => h9) (congrArg (fun z => some (Value.int z)) hM) dX4_odd_6 ?_
      refine x_icmp_ge (tgt := 61) hx hb (by first | omega | (have := hq12 _ (show k < M by omega); have := hq12 _ (show (ob (fun k => ab (lfv mi ma q k)) q k) < M by omega); omega)) (by first | omega | (have := hq12 _ (show k < M by omega); have := hq12 _ (show (ob (fun k => ab (lfv mi ma q k)) q k) < M by omega); omega)) dX4_odd_9 (by decide) (fun c_2 => ?_) (fun c_2 => ?_)
      · refine lv_iload_n hx hb dX4_odd_61 rfl (lv_at hl 1 rfl) ?_
        exact x_rdi hQ hx hb hr rfl hlk (by have e : k = M := (by omega); subst e; rfl) dX4_odd_62
      · refine lv_aload_n hx hb dX4_odd_12 rfl (lv_at hl 0 rfl) ?_
        refine lv_iload_n hx hb dX4_odd_13 rfl (lv_at hl 2 rfl) ?_
        refine x_rd (va_runV (As := [.int (nI k)]) (rest := []) hC (c_X4_left (q := q) hP (by omega) (hq _ (by omega)) (hq12 _ (by omega))) (cwV 1 hts gX4_odd_X4_left rfl rfl rfl qdX4_left ⟨Nat.le_of_ble_eq_true rfl, Nat.le_of_ble_eq_true rfl⟩) (x_preV hK (x_recv hK (hP 0 _ rfl) rfl)) rfl rfl hl.1 rfl (lv_room (Nat.le_of_ble_eq_true rfl)) dX4_odd_14 ⟨Nat.le_of_ble_eq_true rfl, Nat.le_of_ble_eq_true rfl⟩) ?_
        refine va_mabs hx hb (hml.trans hl.1.symm) hown k_m83 k_msabs k_mi k_mcabs (by decide) (Nat.le_of_ble_eq_true rfl) (Nat.zero_le _) (Nat.zero_le _) dX4_odd_17 ?_
        refine W.eq (g2 := F0 m 20 ls [.int (ab (lfv mi ma q k))]) rfl ?_
        refine lv_aload_n hx hb dX4_odd_20 rfl (lv_at hl 0 rfl) ?_
        refine lv_iload_n hx hb dX4_odd_21 rfl (lv_at hl 1 rfl) ?_
        refine x_rd (va_runV (As := [.int (nI (ob (fun k => ab (lfv mi ma q k)) q k))]) (rest := [.int (ab (lfv mi ma q k))]) hC (c_X4_left (q := q) hP (by omega) (hq _ (by omega)) (hq12 _ (by omega))) (cwV 1 hts gX4_odd_X4_left rfl rfl rfl qdX4_left ⟨Nat.le_of_ble_eq_true rfl, Nat.le_of_ble_eq_true rfl⟩) (x_preV hK (x_recv hK (hP 0 _ rfl) rfl)) rfl rfl hl.1 rfl (lv_room (Nat.le_of_ble_eq_true rfl)) dX4_odd_22 ⟨Nat.le_of_ble_eq_true rfl, Nat.le_of_ble_eq_true rfl⟩) ?_
        refine va_mabs hx hb (hml.trans hl.1.symm) hown k_m83 k_msabs k_mi k_mcabs (by decide) (Nat.le_of_ble_eq_true rfl) (Nat.zero_le _) (Nat.zero_le _) dX4_odd_25 ?_
        refine W.eq (g2 := F0 m 28 ls [.int (ab (lfv mi ma q (ob (fun k => ab (lfv mi ma q k)) q k))), .int (ab (lfv mi ma q k))]) rfl ?_
        refine lv_isub hx hb dX4_odd_28 ?_
        refine lv_istore_n (lv' := [(3, .int ((ab (lfv mi ma q k)) - (ab (lfv mi ma q (ob (fun k => ab (lfv mi ma q k)) q k))))), (0, .ref (b 0)), (1, .int (nI (ob (fun k => ab (lfv mi ma q k)) q k))), (2, .int (nI k))]) hx hb dX4_odd_29 rfl hl (by decide) rfl (fun ls hl => ?_)
        refine lv_iload_n hx hb dX4_odd_30 rfl (lv_at hl 0 rfl) ?_
        refine lv_if_gt (tgt := 53) hx hb dX4_odd_31 (by decide) (fun c_3 => ?_) (fun c_3 => ?_)
        · refine lv_iload_n hx hb dX4_odd_53 rfl (lv_at hl 3 rfl) ?_
          refine lv_istore_n (lv' := [(1, .int (nI k)), (3, .int ((ab (lfv mi ma q k)) - (ab (lfv mi ma q (ob (fun k => ab (lfv mi ma q k)) q k))))), (0, .ref (b 0)), (2, .int (nI k))]) hx hb dX4_odd_54 rfl hl (by decide) rfl (fun ls hl => ?_)
          have hl : lv_has ls 4 [(1, .int (nI (ob (fun k => ab (lfv mi ma q k)) q (k + 1)))), (3, .int ((ab (lfv mi ma q k)) - (ab (lfv mi ma q (ob (fun k => ab (lfv mi ma q k)) q k))))), (0, .ref (b 0)), (2, .int (nI k))] := by
            have e9 : (ob (fun k => ab (lfv mi ma q k)) q (k + 1)) = k := by show (if bt (fun k => ab (lfv mi ma q k)) q k (ob (fun k => ab (lfv mi ma q k)) q k) = true then k else (ob (fun k => ab (lfv mi ma q k)) q k)) = k; rw [if_pos]; simp only [bt, decide_eq_true c_3, Bool.true_or]
            rw [e9]; exact hl
          refine lv_iinc (v := nI (k + 1)) (lv' := [(2, .int (nI (k + 1))), (1, .int (nI (ob (fun k => ab (lfv mi ma q k)) q (k + 1)))), (3, .int ((ab (lfv mi ma q k)) - (ab (lfv mi ma q (ob (fun k => ab (lfv mi ma q k)) q k))))), (0, .ref (b 0))]) hx hb dX4_odd_55 hl (k := 3) rfl (nI_incn _) (by decide) rfl (fun ls hl => ?_)
          refine lv_goto (tgt := 4) hx hb dX4_odd_58 (by decide) ?_
          exact ih_1 (k + 1) ls (by omega) (by omega) (by omega) (lv_sub hl [3, 1, 0] rfl)
        · refine lv_iload_n hx hb dX4_odd_34 rfl (lv_at hl 0 rfl) ?_
          refine lv_if_ne (tgt := 55) hx hb dX4_odd_35 (by decide) (fun c_4 => ?_) (fun c_4 => ?_)
          · have hl : lv_has ls 4 [(3, .int ((ab (lfv mi ma q k)) - (ab (lfv mi ma q (ob (fun k => ab (lfv mi ma q k)) q k))))), (0, .ref (b 0)), (1, .int (nI (ob (fun k => ab (lfv mi ma q k)) q (k + 1)))), (2, .int (nI k))] := by
              have e9 : (ob (fun k => ab (lfv mi ma q k)) q (k + 1)) = (ob (fun k => ab (lfv mi ma q k)) q k) := by show (if bt (fun k => ab (lfv mi ma q k)) q k (ob (fun k => ab (lfv mi ma q k)) q k) = true then k else (ob (fun k => ab (lfv mi ma q k)) q k)) = (ob (fun k => ab (lfv mi ma q k)) q k); rw [if_neg]; simp only [bt, decide_eq_false c_3, decide_eq_false c_4, Bool.false_and, Bool.or_false]; decide
              rw [e9]; exact hl
            refine lv_iinc (v := nI (k + 1)) (lv' := [(2, .int (nI (k + 1))), (3, .int ((ab (lfv mi ma q k)) - (ab (lfv mi ma q (ob (fun k => ab (lfv mi ma q k)) q k))))), (0, .ref (b 0)), (1, .int (nI (ob (fun k => ab (lfv mi ma q k)) q (k + 1))))]) hx hb dX4_odd_55 hl (k := 3) rfl (nI_incn _) (by decide) rfl (fun ls hl => ?_)
            refine lv_goto (tgt := 4) hx hb dX4_odd_58 (by decide) ?_
            exact ih_1 (k + 1) ls (by omega) (by omega) (by omega) (lv_sub hl [2, 3, 0] rfl)
          · refine lv_aload_n hx hb dX4_odd_38 rfl (lv_at hl 1 rfl) ?_
            refine x_get (T := TX4) (N := 11) (v := .ref (b 3)) hx hb hts in_X4 hown hK (hP 0 _ rfl) rfl 5 (by decide) k_f16 (fun _ h9 => h9) (rfl) dX4_odd_39 ?_
            refine lv_iload_n hx hb dX4_odd_42 rfl (lv_at hl 3 rfl) ?_
            refine x_ialdN hx hb hK (hP 3 _ rfl) (by omega) (by decide) dX4_odd_43 ?_
            refine W.eq (g2 := F0 m 44 ls [.int (nI (q k))]) (congrArg (fun z => F0 m 44 ls (.int z :: [])) (hq _ (by omega))) ?_
            refine lv_aload_n hx hb dX4_odd_44 rfl (lv_at hl 1 rfl) ?_
            refine x_get (T := TX4) (N := 11) (v := .ref (b 3)) hx hb hts in_X4 hown hK (hP 0 _ rfl) rfl 5 (by decide) k_f16 (fun _ h9 => h9) (rfl) dX4_odd_45 ?_
            refine lv_iload_n hx hb dX4_odd_48 rfl (lv_at hl 2 rfl) ?_
            refine x_ialdN hx hb hK (hP 3 _ rfl) (by omega) (by decide) dX4_odd_49 ?_
            refine W.eq (g2 := F0 m 50 ls [.int (nI (q (ob (fun k => ab (lfv mi ma q k)) q k))), .int (nI (q k))]) (congrArg (fun z => F0 m 50 ls (.int z :: [.int (nI (q k))])) (hq _ (by omega))) ?_
            refine x_icmp_ge (tgt := 55) hx hb (by first | omega | (have := hq12 _ (show k < M by omega); have := hq12 _ (show (ob (fun k => ab (lfv mi ma q k)) q k) < M by omega); omega)) (by first | omega | (have := hq12 _ (show k < M by omega); have := hq12 _ (show (ob (fun k => ab (lfv mi ma q k)) q k) < M by omega); omega)) dX4_odd_50 (by decide) (fun c_5 => ?_) (fun c_5 => ?_)
            · have hl : lv_has ls 4 [(3, .int ((ab (lfv mi ma q k)) - (ab (lfv mi ma q (ob (fun k => ab (lfv mi ma q k)) q k))))), (0, .ref (b 0)), (1, .int (nI (ob (fun k => ab (lfv mi ma q k)) q (k + 1)))), (2, .int (nI k))] := by
                have e9 : (ob (fun k => ab (lfv mi ma q k)) q (k + 1)) = (ob (fun k => ab (lfv mi ma q k)) q k) := by show (if bt (fun k => ab (lfv mi ma q k)) q k (ob (fun k => ab (lfv mi ma q k)) q k) = true then k else (ob (fun k => ab (lfv mi ma q k)) q k)) = (ob (fun k => ab (lfv mi ma q k)) q k); rw [if_neg]; simp only [bt, decide_eq_false c_3, decide_eq_false (Nat.not_lt.mpr c_5), Bool.and_false, Bool.or_false]; decide
                rw [e9]; exact hl
              refine lv_iinc (v := nI (k + 1)) (lv' := [(2, .int (nI (k + 1))), (3, .int ((ab (lfv mi ma q k)) - (ab (lfv mi ma q (ob (fun k => ab (lfv mi ma q k)) q k))))), (0, .ref (b 0)), (1, .int (nI (ob (fun k => ab (lfv mi ma q k)) q (k + 1))))]) hx hb dX4_odd_55 hl (k := 3) rfl (nI_incn _) (by decide) rfl (fun ls hl => ?_)
              refine lv_goto (tgt := 4) hx hb dX4_odd_58 (by decide) ?_
              exact ih_1 (k + 1) ls (by omega) (by omega) (by omega) (lv_sub hl [2, 3, 0] rfl)
            · refine lv_iload_n hx hb dX4_odd_53 rfl (lv_at hl 3 rfl) ?_
              refine lv_istore_n (lv' := [(1, .int (nI k)), (3, .int ((ab (lfv mi ma q k)) - (ab (lfv mi ma q (ob (fun k => ab (lfv mi ma q k)) q k))))), (0, .ref (b 0)), (2, .int (nI k))]) hx hb dX4_odd_54 rfl hl (by decide) rfl (fun ls hl => ?_)
              have hl : lv_has ls 4 [(1, .int (nI (ob (fun k => ab (lfv mi ma q k)) q (k + 1)))), (3, .int ((ab (lfv mi ma q k)) - (ab (lfv mi ma q (ob (fun k => ab (lfv mi ma q k)) q k))))), (0, .ref (b 0)), (2, .int (nI k))] := by
                have e9 : (ob (fun k => ab (lfv mi ma q k)) q (k + 1)) = k := by show (if bt (fun k => ab (lfv mi ma q k)) q k (ob (fun k => ab (lfv mi ma q k)) q k) = true then k else (ob (fun k => ab (lfv mi ma q k)) q k)) = k; rw [if_pos]; simp only [bt, decide_eq_true c_4, decide_eq_true c_5, Bool.true_and, Bool.or_true]
                rw [e9]; exact hl
              refine lv_iinc (v := nI (k + 1)) (lv' := [(2, .int (nI (k + 1))), (1, .int (nI (ob (fun k => ab (lfv mi ma q k)) q (k + 1)))), (3, .int ((ab (lfv mi ma q k)) - (ab (lfv mi ma q (ob (fun k => ab (lfv mi ma q k)) q k))))), (0, .ref (b 0))]) hx hb dX4_odd_55 hl (k := 3) rfl (nI_incn _) (by decide) rfl (fun ls hl => ?_)
              refine lv_goto (tgt := 4) hx hb dX4_odd_58 (by decide) ?_
              exact ih_1 (k + 1) ls (by omega) (by omega) (by omega) (lv_sub hl [3, 1, 0] rfl)
  exact loop_1 _ 1 ls (Nat.lt_succ_self _) (Nat.one_pos) (hM1) (lv_sub hl [2, 1, 0] rfl)
abbrev rmX4_next : Room := { frames := 1, cells := 0, slots := 0, locals := 22 }
theorem qdX4_next : yX4_next.cls = RX4 ∧ yX4_next.cls ≠ "java/lang/invoke/MethodHandle" ∧ yX4_next.cls ≠ "java/lang/invoke/VarHandle" ∧ (parseMethodDescriptor yX4_next.desc).map (fun d => d.parameters.length) = some 1 := by decide +kernel
set_option maxHeartbeats 4000000 in
set_option maxRecDepth 100000 in
theorem c_X4_next {l : Launch} {G : gT} {b : Nat → Nat} {mi : Nat → Int32} {ma : Nat → Nat → Int32} {H : Heap} {n : Nat} {pp : Int32} (hP : mP G b mi ma H) (hmn : mi 1 = nI n) (hn12 : n ≤ 12) : Rd G l yX4_next wsX4_next rmX4_next [.ref (b 0), .int pp] H (.int (onI (nx (fun s => gL (ma 0) s 0) pp n))) := by
  refine x_head (bytes := cX4_next) (maxL := 4) (ret := (some .int)) (by decide) rfl (Nat.le_of_ble_eq_true rfl) ?_
  intro p e s m below meth c ls hx hb hml hown hts hr hlk hnm hK hs0 hl Q hQ
  have hl : lv_has ls 4 [(0, .ref (b 0)), (1, .int pp)] := hl
  have hC : CallFix p m c cX4_next 4 s [.ref (b 0), .int pp].toArray wsX4_next RX4 := ⟨hx, hb, hml, hown, hts⟩
  have k_f34 := hts (.fieldLink RX4 34 "SundogLineModel" "stations" "I") (by decide +kernel)
  have in_X4 : ∀ w ∈ u_ws RX4 TX4 11, w ∈ wsX4_next := by decide +kernel
  refine lv_iconst (v := (-1)) hx hb dX4_next_0 (by decide +kernel) ?_
  refine lv_istore_n (lv' := [(2, .int ((-1))), (0, .ref (b 0)), (1, .int pp)]) hx hb dX4_next_1 rfl hl (by decide) rfl (fun ls hl => ?_)
  refine lv_iconst (v := nI 0) hx hb dX4_next_2 (by decide +kernel) ?_
  refine lv_istore_n (lv' := [(3, .int (nI 0)), (2, .int ((-1))), (0, .ref (b 0)), (1, .int pp)]) hx hb dX4_next_3 rfl hl (by decide) rfl (fun ls hl => ?_)
  have loop_1 : ∀ (fu : Nat) (k : Nat)  (ls : Array Slot), n - k < fu → (k ≤ n) → lv_has ls 4 [(0, .ref (b 0)), (1, .int pp), (2, .int (onI (nx (fun s => gL (ma 0) s 0) pp k))), (3, .int (nI k))] → W p l e rmX4_next s m [.ref (b 0), .int pp].toArray below meth c H [] 0 0 Q (F0 m 4 ls []) := by
    intro fu
    induction fu with
    | zero => intro k ls hms hk hl; exact absurd hms (Nat.not_lt_zero _)
    | succ fu ih_1 =>
      intro k ls hms hk hl
      refine lv_iload_n hx hb dX4_next_4 rfl (lv_at hl 3 rfl) ?_
      refine lv_aload_n hx hb dX4_next_5 rfl (lv_at hl 0 rfl) ?_
      refine x_get (T := TX4) (N := 11) (v := .int (nI n)) hx hb hts in_X4 hown hK (hP 0 _ rfl) rfl 1 (by decide) k_f34 (fun _ h9 => h9) (congrArg (fun z => some (Value.int z)) hmn) dX4_next_6 ?_
      refine x_icmp_ge (tgt := 50) hx hb (by omega) (by omega) dX4_next_9 (by decide) (fun c_2 => ?_) (fun c_2 => ?_)
      · refine lv_iload_n hx hb dX4_next_50 rfl (lv_at hl 2 rfl) ?_
        exact x_rdi hQ hx hb hr rfl hlk (by have e : k = n := (by omega); subst e; rfl) dX4_next_51
      · rcases hb9 : nx (fun s => gL (ma 0) s 0) pp k with _ | jb
        · have hl : lv_has ls 4 [(0, .ref (b 0)), (1, .int pp), (2, .int ((-1))), (3, .int (nI k))] := by rw [hb9] at hl; exact hl
          refine lv_aload_n hx hb dX4_next_12 rfl (lv_at hl 0 rfl) ?_
          refine lv_iload_n hx hb dX4_next_13 rfl (lv_at hl 3 rfl) ?_
          refine lv_iconst (v := nI 0) hx hb dX4_next_14 (by decide +kernel) ?_
          refine x_rd (va_runV (As := [.int (nI k), .int (nI 0)]) (rest := []) hC (c_X4_get hP (by omega) (by omega)) (cwV 2 hts gX4_next_X4_get rfl rfl rfl qdX4_get ⟨Nat.le_of_ble_eq_true rfl, Nat.le_of_ble_eq_true rfl⟩) (x_preV hK (x_recv hK (hP 0 _ rfl) rfl)) rfl rfl hl.1 rfl (lv_room (Nat.le_of_ble_eq_true rfl)) dX4_next_15 ⟨Nat.le_of_ble_eq_true rfl, Nat.le_of_ble_eq_true rfl⟩) ?_
          refine lv_iload_n hx hb dX4_next_18 rfl (lv_at hl 1 rfl) ?_
          refine lv_icmp_le (tgt := 44) hx hb dX4_next_19 (by decide) (fun c_3 => ?_) (fun c_3 => ?_)
          · have hl : lv_has ls 4 [(0, .ref (b 0)), (1, .int pp), (2, .int (onI (nx (fun s => gL (ma 0) s 0) pp (k + 1)))), (3, .int (nI k))] := by
              have e9 : onI (nx (fun s => gL (ma 0) s 0) pp (k + 1)) = (-1) := by simp only [nx, hb9]; rw [if_neg (Int32.not_lt.mpr c_3)]; rfl
              rw [e9]; exact hl
            refine lv_iinc (v := nI (k + 1)) (lv' := [(3, .int (nI (k + 1))), (0, .ref (b 0)), (1, .int pp), (2, .int (onI (nx (fun s => gL (ma 0) s 0) pp (k + 1))))]) hx hb dX4_next_44 hl (k := 3) rfl (nI_incn _) (by decide) rfl (fun ls hl => ?_)
            refine lv_goto (tgt := 4) hx hb dX4_next_47 (by decide) ?_
            exact ih_1 (k + 1) ls (by omega) (by omega) (lv_sub hl [1, 2, 3, 0] rfl)
          · refine lv_iload_n hx hb dX4_next_22 rfl (lv_at hl 2 rfl) ?_
            refine lv_iconst (v := (-1)) hx hb dX4_next_23 (by decide +kernel) ?_
            refine lv_icmp_eq (tgt := 42) hx hb dX4_next_24 (by decide) (fun c_4 => ?_) (fun c_4 => ?_)
            · refine lv_iload_n hx hb dX4_next_42 rfl (lv_at hl 3 rfl) ?_
              refine lv_istore_n (lv' := [(2, .int (nI k)), (0, .ref (b 0)), (1, .int pp), (3, .int (nI k))]) hx hb dX4_next_43 rfl hl (by decide) rfl (fun ls hl => ?_)
              have hl : lv_has ls 4 [(2, .int (onI (nx (fun s => gL (ma 0) s 0) pp (k + 1)))), (0, .ref (b 0)), (1, .int pp), (3, .int (nI k))] := by
                have e9 : onI (nx (fun s => gL (ma 0) s 0) pp (k + 1)) = nI k := by simp only [nx, hb9]; rw [if_pos (Int32.not_le.mp c_3)]; rfl
                rw [e9]; exact hl
              refine lv_iinc (v := nI (k + 1)) (lv' := [(3, .int (nI (k + 1))), (2, .int (onI (nx (fun s => gL (ma 0) s 0) pp (k + 1)))), (0, .ref (b 0)), (1, .int pp)]) hx hb dX4_next_44 hl (k := 3) rfl (nI_incn _) (by decide) rfl (fun ls hl => ?_)
              refine lv_goto (tgt := 4) hx hb dX4_next_47 (by decide) ?_
              exact ih_1 (k + 1) ls (by omega) (by omega) (lv_sub hl [2, 3, 1, 0] rfl)
            · exact absurd rfl c_4
        · have hl : lv_has ls 4 [(0, .ref (b 0)), (1, .int pp), (2, .int (nI jb)), (3, .int (nI k))] := by rw [hb9] at hl; exact hl
          have hjb := nx_lt _ _ _ _ hb9
          refine lv_aload_n hx hb dX4_next_12 rfl (lv_at hl 0 rfl) ?_
          refine lv_iload_n hx hb dX4_next_13 rfl (lv_at hl 3 rfl) ?_
          refine lv_iconst (v := nI 0) hx hb dX4_next_14 (by decide +kernel) ?_
          refine x_rd (va_runV (As := [.int (nI k), .int (nI 0)]) (rest := []) hC (c_X4_get hP (by omega) (by omega)) (cwV 2 hts gX4_next_X4_get rfl rfl rfl qdX4_get ⟨Nat.le_of_ble_eq_true rfl, Nat.le_of_ble_eq_true rfl⟩) (x_preV hK (x_recv hK (hP 0 _ rfl) rfl)) rfl rfl hl.1 rfl (lv_room (Nat.le_of_ble_eq_true rfl)) dX4_next_15 ⟨Nat.le_of_ble_eq_true rfl, Nat.le_of_ble_eq_true rfl⟩) ?_
          refine lv_iload_n hx hb dX4_next_18 rfl (lv_at hl 1 rfl) ?_
          refine lv_icmp_le (tgt := 44) hx hb dX4_next_19 (by decide) (fun c_5 => ?_) (fun c_5 => ?_)
          · have hl : lv_has ls 4 [(0, .ref (b 0)), (1, .int pp), (2, .int (onI (nx (fun s => gL (ma 0) s 0) pp (k + 1)))), (3, .int (nI k))] := by
              have e9 : onI (nx (fun s => gL (ma 0) s 0) pp (k + 1)) = nI jb := by simp only [nx, hb9]; rw [if_neg (fun z => absurd z.1 (Int32.not_lt.mpr c_5))]; rfl
              rw [e9]; exact hl
            refine lv_iinc (v := nI (k + 1)) (lv' := [(3, .int (nI (k + 1))), (0, .ref (b 0)), (1, .int pp), (2, .int (onI (nx (fun s => gL (ma 0) s 0) pp (k + 1))))]) hx hb dX4_next_44 hl (k := 3) rfl (nI_incn _) (by decide) rfl (fun ls hl => ?_)
            refine lv_goto (tgt := 4) hx hb dX4_next_47 (by decide) ?_
            exact ih_1 (k + 1) ls (by omega) (by omega) (lv_sub hl [1, 2, 3, 0] rfl)
          · refine lv_iload_n hx hb dX4_next_22 rfl (lv_at hl 2 rfl) ?_
            refine lv_iconst (v := (-1)) hx hb dX4_next_23 (by decide +kernel) ?_
            refine lv_icmp_eq (tgt := 42) hx hb dX4_next_24 (by decide) (fun c_6 => ?_) (fun c_6 => ?_)
            · exact absurd c_6 (nI_m1 (by omega))
            · refine lv_aload_n hx hb dX4_next_27 rfl (lv_at hl 0 rfl) ?_
              refine lv_iload_n hx hb dX4_next_28 rfl (lv_at hl 3 rfl) ?_
              refine lv_iconst (v := nI 0) hx hb dX4_next_29 (by decide +kernel) ?_
              refine x_rd (va_runV (As := [.int (nI k), .int (nI 0)]) (rest := []) hC (c_X4_get hP (by omega) (by omega)) (cwV 2 hts gX4_next_X4_get rfl rfl rfl qdX4_get ⟨Nat.le_of_ble_eq_true rfl, Nat.le_of_ble_eq_true rfl⟩) (x_preV hK (x_recv hK (hP 0 _ rfl) rfl)) rfl rfl hl.1 rfl (lv_room (Nat.le_of_ble_eq_true rfl)) dX4_next_30 ⟨Nat.le_of_ble_eq_true rfl, Nat.le_of_ble_eq_true rfl⟩) ?_
              refine lv_aload_n hx hb dX4_next_33 rfl (lv_at hl 0 rfl) ?_
              refine lv_iload_n hx hb dX4_next_34 rfl (lv_at hl 2 rfl) ?_
              refine lv_iconst (v := nI 0) hx hb dX4_next_35 (by decide +kernel) ?_
              refine x_rd (va_runV (As := [.int (nI jb), .int (nI 0)]) (rest := [.int (gL (ma 0) k 0)]) hC (c_X4_get hP (by omega) (by omega)) (cwV 2 hts gX4_next_X4_get rfl rfl rfl qdX4_get ⟨Nat.le_of_ble_eq_true rfl, Nat.le_of_ble_eq_true rfl⟩) (x_preV hK (x_recv hK (hP 0 _ rfl) rfl)) rfl rfl hl.1 rfl (lv_room (Nat.le_of_ble_eq_true rfl)) dX4_next_36 ⟨Nat.le_of_ble_eq_true rfl, Nat.le_of_ble_eq_true rfl⟩) ?_
              refine lv_icmp_ge (tgt := 44) hx hb dX4_next_39 (by decide) (fun c_7 => ?_) (fun c_7 => ?_)
              · have hl : lv_has ls 4 [(0, .ref (b 0)), (1, .int pp), (2, .int (onI (nx (fun s => gL (ma 0) s 0) pp (k + 1)))), (3, .int (nI k))] := by
                  have e9 : onI (nx (fun s => gL (ma 0) s 0) pp (k + 1)) = nI jb := by simp only [nx, hb9]; rw [if_neg (fun z => absurd z.2 (Int32.not_lt.mpr c_7))]; rfl
                  rw [e9]; exact hl
                refine lv_iinc (v := nI (k + 1)) (lv' := [(3, .int (nI (k + 1))), (0, .ref (b 0)), (1, .int pp), (2, .int (onI (nx (fun s => gL (ma 0) s 0) pp (k + 1))))]) hx hb dX4_next_44 hl (k := 3) rfl (nI_incn _) (by decide) rfl (fun ls hl => ?_)
                refine lv_goto (tgt := 4) hx hb dX4_next_47 (by decide) ?_
                exact ih_1 (k + 1) ls (by omega) (by omega) (lv_sub hl [1, 2, 3, 0] rfl)
              · refine lv_iload_n hx hb dX4_next_42 rfl (lv_at hl 3 rfl) ?_
                refine lv_istore_n (lv' := [(2, .int (nI k)), (0, .ref (b 0)), (1, .int pp), (3, .int (nI k))]) hx hb dX4_next_43 rfl hl (by decide) rfl (fun ls hl => ?_)
                have hl : lv_has ls 4 [(2, .int (onI (nx (fun s => gL (ma 0) s 0) pp (k + 1)))), (0, .ref (b 0)), (1, .int pp), (3, .int (nI k))] := by
                  have e9 : onI (nx (fun s => gL (ma 0) s 0) pp (k + 1)) = nI k := by simp only [nx, hb9]; rw [if_pos ⟨Int32.not_le.mp c_5, Int32.not_le.mp c_7⟩]; rfl
                  rw [e9]; exact hl
                refine lv_iinc (v := nI (k + 1)) (lv' := [(3, .int (nI (k + 1))), (2, .int (onI (nx (fun s => gL (ma 0) s 0) pp (k + 1)))), (0, .ref (b 0)), (1, .int pp)]) hx hb dX4_next_44 hl (k := 3) rfl (nI_incn _) (by decide) rfl (fun ls hl => ?_)
                refine lv_goto (tgt := 4) hx hb dX4_next_47 (by decide) ?_
                exact ih_1 (k + 1) ls (by omega) (by omega) (lv_sub hl [2, 3, 1, 0] rfl)
  exact loop_1 _ 0 ls (Nat.lt_succ_self _) (Nat.zero_le _) (lv_sub hl [2, 3, 1, 0] rfl)
