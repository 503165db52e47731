abbrev rmX3_middle : Room := { frames := 0, cells := 0, slots := 0, locals := 0 }
theorem qdX3_middle : yX3_middle.cls = RX3 ∧ yX3_middle.cls ≠ "java/lang/invoke/MethodHandle" ∧ yX3_middle.cls ≠ "java/lang/invoke/VarHandle" ∧ (parseMethodDescriptor yX3_middle.desc).map (fun d => d.parameters.length) = some 2 := by decide +kernel
set_option maxHeartbeats 4000000 in
set_option maxRecDepth 100000 in
theorem c_X3_middle {l : Launch} {G : gT} {x n9 N : Nat} {v0 : Nat → Int32} {H0 : Heap} (h0 : pt G x (eI G n9 v0) H0) (hN : 1 ≤ N) (hNn : N ≤ n9) (hn9 : n9 ≤ 100) : WrI G l yX3_middle wsX3_middle rmX3_middle [.ref x, .int (nI N)] H0 (fun q => q = x) (fun r H1 => r = mid v0 N ∧ ∃ v, pt G x (eI G n9 v) H1) := by
  refine x_head (bytes := cX3_middle) (maxL := 5) (ret := (some .int)) (by decide) rfl (Nat.le_of_ble_eq_true rfl) ?_
  intro p e s m below meth c ls hx hb hml hown hts hr hlk hnm hK hs0 hl Q hQ
  have hl : lv_has ls 5 [(0, .ref x), (1, .int (nI N))] := hl
  have hC : CallFix p m c cX3_middle 5 s [.ref x, .int (nI N)].toArray wsX3_middle RX3 := ⟨hx, hb, hml, hown, hts⟩
  obtain ⟨A, eA⟩ : ∃ A : Nat → Prop, A = fun q => q = x := ⟨_, rfl⟩
  rw [← eA] at hQ
  have hP := x_one h0
  have hD : va_D A [(x, eI G n9 v0)] := ⟨fun i j p q hi hj _ => by have := (List.getElem?_eq_some_iff.mp hi).1; have := (List.getElem?_eq_some_iff.mp hj).1; simp only [List.length_cons, List.length_nil] at *; omega, fun k q hk => by match k, hk with
    | 0, hk => cases hk; rw [eA]⟩
  have hS : va_S A H0 H0 [] := va_S.rf
  refine lv_iload_n hx hb dX3_middle_0 rfl (lv_at hl 1 rfl) ?_
  refine lv_iconst (v := nI 1) hx hb dX3_middle_1 (by decide +kernel) ?_
  refine x_icmp_lt (tgt := 11) hx hb (by omega) (by omega) dX3_middle_2 (by decide) (fun c_1 => ?_) (fun c_1 => ?_)
  · exact absurd c_1 (by omega)
  · refine lv_iload_n hx hb dX3_middle_5 rfl (lv_at hl 1 rfl) ?_
    refine lv_aload_n hx hb dX3_middle_6 rfl (lv_at hl 0 rfl) ?_
    refine x_alen (t0 := 0) hx hb hK (hP 0 _ rfl) rfl dX3_middle_7 ?_
    refine x_icmp_le (tgt := 13) hx hb (by omega) (by omega) dX3_middle_8 (by decide) (fun c_2 => ?_) (fun c_2 => ?_)
    · refine lv_iconst (v := nI 1) hx hb dX3_middle_13 (by decide +kernel) ?_
      refine lv_istore_n (lv' := [(2, .int (nI 1)), (0, .ref x), (1, .int (nI N))]) hx hb dX3_middle_14 rfl hl (by decide) rfl (fun ls hl => ?_)
      have loop_3 : ∀ (fu : Nat) (k : Nat) (v : Nat → Int32) (H : Heap) (locs : List Loc) (ls : Array Slot), N - k < fu → (1 ≤ k) → (k ≤ N) → (insI v0 v N k) → (va_P (gD G) vC ([(x, eI G n9 v)]) H) → (va_S A H0 H locs) → lv_has ls 5 [(0, .ref x), (1, .int (nI N)), (2, .int (nI k))] → W p l e rmX3_middle s m [.ref x, .int (nI N)].toArray below meth c H locs 0 0 Q (F0 m 15 ls []) := by
        intro fu
        induction fu with
        | zero => intro k v H locs ls hms hk1 hk hI hP hS hl; exact absurd hms (Nat.not_lt_zero _)
        | succ fu ih_3 =>
          intro k v H locs ls hms hk1 hk hI hP hS hl
          have hD : va_D A ([(x, eI G n9 v)]) := hD.same rfl
          refine lv_iload_n hx hb dX3_middle_15 rfl (lv_at hl 2 rfl) ?_
          refine lv_iload_n hx hb dX3_middle_16 rfl (lv_at hl 1 rfl) ?_
          refine x_icmp_ge (tgt := 69) hx hb (by omega) (by omega) dX3_middle_17 (by decide) (fun c_4 => ?_) (fun c_4 => ?_)
          · refine lv_aload_n hx hb dX3_middle_69 rfl (lv_at hl 0 rfl) ?_
            refine lv_iload_n hx hb dX3_middle_70 rfl (lv_at hl 1 rfl) ?_
            refine lv_iconst (v := nI 1) hx hb dX3_middle_71 (by decide +kernel) ?_
            refine x_isubN hx hb dX3_middle_72 (by omega) ?_
            refine lv_iconst (v := nI 2) hx hb dX3_middle_73 (by decide +kernel) ?_
            refine x_idivN hx hb dX3_middle_74 (by omega) (by omega) (by omega) ?_
            refine x_ialdN hx hb hK (hP 0 _ rfl) (by omega) (by omega) dX3_middle_75 ?_
            exact x_iret hQ hx hb hr rfl hlk hS.2.2 dX3_middle_76 (⟨hS.fr, insI_mid hI (by omega) (by omega), v, hP 0 _ rfl⟩)
          · refine lv_aload_n hx hb dX3_middle_20 rfl (lv_at hl 0 rfl) ?_
            refine lv_iload_n hx hb dX3_middle_21 rfl (lv_at hl 2 rfl) ?_
            refine x_ialdN hx hb hK (hP 0 _ rfl) (by omega) (by omega) dX3_middle_22 ?_
            refine lv_istore_n (lv' := [(3, .int (v k)), (0, .ref x), (1, .int (nI N)), (2, .int (nI k))]) hx hb dX3_middle_23 rfl hl (by decide) rfl (fun ls hl => ?_)
            refine lv_iload_n hx hb dX3_middle_24 rfl (lv_at hl 3 rfl) ?_
            refine lv_istore (lv' := [(4, .int (nI k)), (3, .int (v k)), (0, .ref x), (1, .int (nI N)), (2, .int (nI k))]) hx hb dX3_middle_25 hl (by decide) rfl (fun ls hl => ?_)
            have hP : va_P (gD G) vC [(x, eI G n9 (shf v k k))] H := by rw [shf_self]; exact hP
            have hD : va_D A [(x, eI G n9 (shf v k k))] := hD.same rfl
            have loop_5 : ∀ (fu : Nat) (t : Nat) (H : Heap) (locs : List Loc) (ls : Array Slot), t < fu → (t ≤ k) → (∀ j, t ≤ j → j < k → v k < v j) → (va_P (gD G) vC ([(x, eI G n9 (shf v t k))]) H) → (va_S A H0 H locs) → lv_has ls 5 [(0, .ref x), (1, .int (nI N)), (2, .int (nI k)), (3, .int (v k)), (4, .int (nI t))] → W p l e rmX3_middle s m [.ref x, .int (nI N)].toArray below meth c H locs 0 0 Q (F0 m 27 ls []) := by
              intro fu
              induction fu with
              | zero => intro t H locs ls hms ht hy hP hS hl; exact absurd hms (Nat.not_lt_zero _)
              | succ fu ih_5 =>
                intro t H locs ls hms ht hy hP hS hl
                have hD : va_D A ([(x, eI G n9 (shf v t k))]) := hD.same rfl
                refine lv_iload hx hb dX3_middle_27 (lv_at hl 4 rfl) ?_
                refine x_if_leN (tgt := 58) hx hb (by omega) dX3_middle_29 (by decide) (fun c_6 => ?_) (fun c_6 => ?_)
                · refine lv_aload_n hx hb dX3_middle_58 rfl (lv_at hl 0 rfl) ?_
                  refine lv_iload hx hb dX3_middle_59 (lv_at hl 4 rfl) ?_
                  refine lv_iload_n hx hb dX3_middle_61 rfl (lv_at hl 3 rfl) ?_
                  refine x_iast hx hb hK hP hD hS 0 rfl (by omega) (by omega) dX3_middle_62 (fun H locs hP hD hS => ?_)
                  have hP : va_P (gD G) vC [(x, eI G n9 (upd (shf v t k) t (v k)))] H := hP
                  have hD : va_D A [(x, eI G n9 (upd (shf v t k) t (v k)))] := hD
                  refine lv_iinc (v := nI (k + 1)) (lv' := [(2, .int (nI (k + 1))), (0, .ref x), (1, .int (nI N)), (3, .int (v k)), (4, .int (nI t))]) hx hb dX3_middle_63 hl (k := 2) rfl (nI_incn _) (by decide) rfl (fun ls hl => ?_)
                  refine lv_goto (tgt := 15) hx hb dX3_middle_66 (by decide) ?_
                  exact ih_3 (k + 1) (upd (shf v t k) t (v k)) _ _ ls (by omega) (by omega) (by omega) (ins_step hI (by omega) ht (Or.inl c_6) hy) (hP) (hS) (lv_sub hl [1, 2, 0] rfl)
                · refine lv_aload_n hx hb dX3_middle_32 rfl (lv_at hl 0 rfl) ?_
                  refine lv_iload hx hb dX3_middle_33 (lv_at hl 4 rfl) ?_
                  refine lv_iconst (v := nI 1) hx hb dX3_middle_35 (by decide +kernel) ?_
                  refine x_isubN hx hb dX3_middle_36 (by omega) ?_
                  refine x_ialdN hx hb hK (hP 0 _ rfl) (by omega) (by omega) dX3_middle_37 ?_
                  refine W.eq (g2 := F0 m 38 ls [.int (v (t - 1))]) (congrArg (fun z => F0 m 38 ls (.int z :: [])) (shf_lt v (by omega))) ?_
                  refine lv_iload_n hx hb dX3_middle_38 rfl (lv_at hl 3 rfl) ?_
                  refine lv_icmp_le (tgt := 58) hx hb dX3_middle_39 (by decide) (fun c_7 => ?_) (fun c_7 => ?_)
                  · refine lv_aload_n hx hb dX3_middle_58 rfl (lv_at hl 0 rfl) ?_
                    refine lv_iload hx hb dX3_middle_59 (lv_at hl 4 rfl) ?_
                    refine lv_iload_n hx hb dX3_middle_61 rfl (lv_at hl 3 rfl) ?_
                    refine x_iast hx hb hK hP hD hS 0 rfl (by omega) (by omega) dX3_middle_62 (fun H locs hP hD hS => ?_)
                    have hP : va_P (gD G) vC [(x, eI G n9 (upd (shf v t k) t (v k)))] H := hP
                    have hD : va_D A [(x, eI G n9 (upd (shf v t k) t (v k)))] := hD
                    refine lv_iinc (v := nI (k + 1)) (lv' := [(2, .int (nI (k + 1))), (0, .ref x), (1, .int (nI N)), (3, .int (v k)), (4, .int (nI t))]) hx hb dX3_middle_63 hl (k := 2) rfl (nI_incn _) (by decide) rfl (fun ls hl => ?_)
                    refine lv_goto (tgt := 15) hx hb dX3_middle_66 (by decide) ?_
                    exact ih_3 (k + 1) (upd (shf v t k) t (v k)) _ _ ls (by omega) (by omega) (by omega) (ins_step hI (by omega) ht (Or.inr c_7) hy) (hP) (hS) (lv_sub hl [1, 2, 0] rfl)
                  · refine lv_aload_n hx hb dX3_middle_42 rfl (lv_at hl 0 rfl) ?_
                    refine lv_iload hx hb dX3_middle_43 (lv_at hl 4 rfl) ?_
                    refine lv_aload_n hx hb dX3_middle_45 rfl (lv_at hl 0 rfl) ?_
                    refine lv_iload hx hb dX3_middle_46 (lv_at hl 4 rfl) ?_
                    refine lv_iconst (v := nI 1) hx hb dX3_middle_48 (by decide +kernel) ?_
                    refine x_isubN hx hb dX3_middle_49 (by omega) ?_
                    refine x_ialdN hx hb hK (hP 0 _ rfl) (by omega) (by omega) dX3_middle_50 ?_
                    refine W.eq (g2 := F0 m 51 ls [.int (v (t - 1)), .int (nI t), .ref x]) (congrArg (fun z => F0 m 51 ls (.int z :: [.int (nI t), .ref x])) (shf_lt v (by omega))) ?_
                    refine x_iast hx hb hK hP hD hS 0 rfl (by omega) (by omega) dX3_middle_51 (fun H locs hP hD hS => ?_)
                    have hP : va_P (gD G) vC [(x, eI G n9 (upd (shf v t k) t (v (t - 1))))] H := hP
                    have hD : va_D A [(x, eI G n9 (upd (shf v t k) t (v (t - 1))))] := hD
                    have hP : va_P (gD G) vC [(x, eI G n9 (shf v (t - 1) k))] H := by rw [← shf_step v (by omega) ht]; exact hP
                    have hD : va_D A [(x, eI G n9 (shf v (t - 1) k))] := hD.same rfl
                    refine lv_iinc (v := nI (t - 1)) (lv' := [(4, .int (nI (t - 1))), (0, .ref x), (1, .int (nI N)), (2, .int (nI k)), (3, .int (v k))]) hx hb dX3_middle_52 hl (k := 4) rfl (nI_dec (by omega)) (by decide) rfl (fun ls hl => ?_)
                    refine lv_goto (tgt := 27) hx hb dX3_middle_55 (by decide) ?_
                    exact ih_5 (t - 1) _ _ ls (by omega) (by omega) (shf_hy hy c_6 (Int32.not_le.mp c_7)) (hP) (hS) (lv_sub hl [1, 2, 3, 4, 0] rfl)
            exact loop_5 _ k _ _ ls (Nat.lt_succ_self _) (Nat.le_refl k) (fun j h1 h2 => by omega) (hP) (hS) (lv_sub hl [2, 3, 4, 1, 0] rfl)
      exact loop_3 _ 1 v0 _ _ ls (Nat.lt_succ_self _) (Nat.le_refl 1) (hN) (insI_0 _ _) (hP) (hS) (lv_sub hl [1, 2, 0] rfl)
    · exact absurd c_2 (by omega)
abbrev rmX1_riseTo : Room := { frames := 0, cells := 0, slots := 0, locals := 0 }
theorem qdX1_riseTo : yX1_riseTo.cls = RX1 ∧ yX1_riseTo.cls ≠ "java/lang/invoke/MethodHandle" ∧ yX1_riseTo.cls ≠ "java/lang/invoke/VarHandle" ∧ (parseMethodDescriptor yX1_riseTo.desc).map (fun d => d.parameters.length) = some 1 := by decide +kernel
set_option maxHeartbeats 4000000 in
set_option maxRecDepth 100000 in
theorem c_X1_riseTo {l : Launch} {G : gT} {rb : Nat → Nat} {ri : Nat → Int32} {ra : Nat → Nat → Int32} {H : Heap} (hP : rP G rb ri ra H) {x : Int32} : Rd G l yX1_riseTo wsX1_riseTo rmX1_riseTo [.ref (rb 0), .int x] H (.int (rise (ri 2) x)) := by
  refine x_head (bytes := cX1_riseTo) (maxL := 2) (ret := (some .int)) (by decide) rfl (Nat.le_of_ble_eq_true rfl) ?_
  intro p e s m below meth c ls hx hb hml hown hts hr hlk hnm hK hs0 hl Q hQ
  have hl : lv_has ls 2 [(0, .ref (rb 0)), (1, .int x)] := hl
  have hC : CallFix p m c cX1_riseTo 2 s [.ref (rb 0), .int x].toArray wsX1_riseTo RX1 := ⟨hx, hb, hml, hown, hts⟩
  have k_f35 := hts (.fieldLink RX1 35 "SundogLine$Reckoning" "slope" "I") (by decide +kernel)
  have in_X1 : ∀ w ∈ u_ws RX1 TX1 11, w ∈ wsX1_riseTo := by decide +kernel
  have k_c90 := hts (.constantLong RX1 90 (100)) (by decide +kernel)
  refine lv_aload_n hx hb dX1_riseTo_0 rfl (lv_at hl 0 rfl) ?_
  refine x_get (T := TX1) (N := 11) (v := .int (ri 2)) hx hb hts in_X1 hown hK (hP 0 _ rfl) rfl 2 (by decide) k_f35 (fun _ h9 => h9) (rfl) dX1_riseTo_1 ?_
  refine lv_i2l (v := (ri 2).toInt64) hx hb dX1_riseTo_4 rfl ?_
  refine lv_iload_n hx hb dX1_riseTo_5 rfl (lv_at hl 1 rfl) ?_
  refine lv_i2l (v := x.toInt64) hx hb dX1_riseTo_6 rfl ?_
  refine lv_lmul hx hb dX1_riseTo_7 ?_
  refine lv_ldc2 (v := 100) hx hb hown k_c90 dX1_riseTo_8 ?_
  refine lv_ldiv hx hb dX1_riseTo_11 (by decide) ?_
  refine lv_l2i (v := ((((ri 2).toInt64) * x.toInt64) / 100).toInt32) hx hb dX1_riseTo_12 rfl ?_
  exact x_rdi hQ hx hb hr rfl hlk (rfl) dX1_riseTo_13
abbrev rmX1_guessAt : Room := { frames := 1, cells := 0, slots := 0, locals := 21 }
theorem qdX1_guessAt : yX1_guessAt.cls = RX1 ∧ yX1_guessAt.cls ≠ "java/lang/invoke/MethodHandle" ∧ yX1_guessAt.cls ≠ "java/lang/invoke/VarHandle" ∧ (parseMethodDescriptor yX1_guessAt.desc).map (fun d => d.parameters.length) = some 1 := by decide +kernel
set_option maxHeartbeats 4000000 in
set_option maxRecDepth 100000 in
theorem c_X1_guessAt {l : Launch} {G : gT} {rb : Nat → Nat} {ri : Nat → Int32} {ra : Nat → Nat → Int32} {H : Heap} (hP : rP G rb ri ra H) {x : Int32} {M : Nat} (hM : ri 0 = nI M) (hM12 : M ≤ 12) : Rd G l yX1_guessAt wsX1_guessAt rmX1_guessAt [.ref (rb 0), .int x] H (.int (if M < 2 then (-1000000) else ri 3 + rise (ri 2) x)) := by
  refine x_head (bytes := cX1_guessAt) (maxL := 2) (ret := (some .int)) (by decide) rfl (Nat.le_of_ble_eq_true rfl) ?_
  intro p e s m below meth c ls hx hb hml hown hts hr hlk hnm hK hs0 hl Q hQ
  have hl : lv_has ls 2 [(0, .ref (rb 0)), (1, .int x)] := hl
  have hC : CallFix p m c cX1_guessAt 2 s [.ref (rb 0), .int x].toArray wsX1_guessAt RX1 := ⟨hx, hb, hml, hown, hts⟩
  have k_f48 := hts (.fieldLink RX1 48 "SundogLine$Reckoning" "seen" "I") (by decide +kernel)
  have in_X1 : ∀ w ∈ u_ws RX1 TX1 11, w ∈ wsX1_guessAt := by decide +kernel
  have k_f39 := hts (.fieldLink RX1 39 "SundogLine$Reckoning" "base" "I") (by decide +kernel)
  have k_c34 := hts (.constant RX1 34 (-1000000)) (by decide +kernel)
  refine lv_aload_n hx hb dX1_guessAt_0 rfl (lv_at hl 0 rfl) ?_
  refine x_get (T := TX1) (N := 11) (v := .int (nI M)) hx hb hts in_X1 hown hK (hP 0 _ rfl) rfl 0 (by decide) k_f48 (fun _ h9 => h9) (congrArg (fun z => some (Value.int z)) hM) dX1_guessAt_1 ?_
  refine lv_iconst (v := nI 2) hx hb dX1_guessAt_4 (by decide +kernel) ?_
  refine x_icmp_ge (tgt := 13) hx hb (by omega) (by omega) dX1_guessAt_5 (by decide) (fun c_1 => ?_) (fun c_1 => ?_)
  · refine lv_aload_n hx hb dX1_guessAt_13 rfl (lv_at hl 0 rfl) ?_
    refine x_get (T := TX1) (N := 11) (v := .int (ri 3)) hx hb hts in_X1 hown hK (hP 0 _ rfl) rfl 3 (by decide) k_f39 (fun _ h9 => h9) (rfl) dX1_guessAt_14 ?_
    refine lv_aload_n hx hb dX1_guessAt_17 rfl (lv_at hl 0 rfl) ?_
    refine lv_iload_n hx hb dX1_guessAt_18 rfl (lv_at hl 1 rfl) ?_
    refine x_rd (va_runV (As := [.int x]) (rest := [.int (ri 3)]) hC (c_X1_riseTo hP) (cwV 1 hts gX1_guessAt_X1_riseTo rfl rfl rfl qdX1_riseTo ⟨Nat.le_of_ble_eq_true rfl, Nat.le_of_ble_eq_true rfl⟩) (x_preV hK (x_recv hK (hP 0 _ rfl) rfl)) rfl rfl hl.1 rfl (lv_room (Nat.le_of_ble_eq_true rfl)) dX1_guessAt_19 ⟨Nat.le_of_ble_eq_true rfl, Nat.le_of_ble_eq_true rfl⟩) ?_
    refine lv_iadd hx hb dX1_guessAt_22 ?_
    exact x_rdi hQ hx hb hr rfl hlk (by rw [if_neg (by omega)]) dX1_guessAt_23
  · refine lv_ldc (v := (-1000000)) hx hb hown k_c34 dX1_guessAt_8 ?_
    refine lv_goto (tgt := 23) hx hb dX1_guessAt_10 (by decide) ?_
    exact x_rdi hQ hx hb hr rfl hlk (by rw [if_pos c_1]) dX1_guessAt_23
abbrev rmX1_fallingPairs : Room := { frames := 0, cells := 0, slots := 0, locals := 0 }
theorem qdX1_fallingPairs : yX1_fallingPairs.cls = RX1 ∧ yX1_fallingPairs.cls ≠ "java/lang/invoke/MethodHandle" ∧ yX1_fallingPairs.cls ≠ "java/lang/invoke/VarHandle" ∧ (parseMethodDescriptor yX1_fallingPairs.desc).map (fun d => d.parameters.length) = some 0 := by decide +kernel
set_option maxHeartbeats 4000000 in
set_option maxRecDepth 100000 in
theorem c_X1_fallingPairs {l : Launch} {G : gT} {rb : Nat → Nat} {ri : Nat → Int32} {ra : Nat → Nat → Int32} {H : Heap} (hP : rP G rb ri ra H) {M : Nat} (hM : ri 0 = nI M) (hM12 : M ≤ 12) : Rd G l yX1_fallingPairs wsX1_fallingPairs rmX1_fallingPairs [.ref (rb 0)] H (.int (nI (colC (fallB (ra 2)) M))) := by
  refine x_head (bytes := cX1_fallingPairs) (maxL := 4) (ret := (some .int)) (by decide) rfl (Nat.le_of_ble_eq_true rfl) ?_
  intro p e s m below meth c ls hx hb hml hown hts hr hlk hnm hK hs0 hl Q hQ
  have hl : lv_has ls 4 [(0, .ref (rb 0))] := hl
  have hC : CallFix p m c cX1_fallingPairs 4 s [.ref (rb 0)].toArray wsX1_fallingPairs RX1 := ⟨hx, hb, hml, hown, hts⟩
  have k_f48 := hts (.fieldLink RX1 48 "SundogLine$Reckoning" "seen" "I") (by decide +kernel)
  have in_X1 : ∀ w ∈ u_ws RX1 TX1 11, w ∈ wsX1_fallingPairs := by decide +kernel
  have k_f18 := hts (.fieldLink RX1 18 "SundogLine$Reckoning" "readings" "[I") (by decide +kernel)
  refine lv_iconst (v := nI 0) hx hb dX1_fallingPairs_0 (by decide +kernel) ?_
  refine lv_istore_n (lv' := [(1, .int (nI 0)), (0, .ref (rb 0))]) hx hb dX1_fallingPairs_1 rfl hl (by decide) rfl (fun ls hl => ?_)
  refine lv_iconst (v := nI 1) hx hb dX1_fallingPairs_2 (by decide +kernel) ?_
  refine lv_istore_n (lv' := [(2, .int (nI 1)), (1, .int (nI 0)), (0, .ref (rb 0))]) hx hb dX1_fallingPairs_3 rfl hl (by decide) rfl (fun ls hl => ?_)
  have loop_1 : ∀ (fu : Nat) (bb : Nat)  (ls : Array Slot), M - bb < fu → (1 ≤ bb) → (bb ≤ M ∨ bb = 1) → lv_has ls 4 [(0, .ref (rb 0)), (1, .int (nI (colC (fallB (ra 2)) bb))), (2, .int (nI bb))] → W p l e rmX1_fallingPairs s m [.ref (rb 0)].toArray below meth c H [] 0 0 Q (F0 m 4 ls []) := by
    intro fu
    induction fu with
    | zero => intro bb ls hms hb1 hbb hl; exact absurd hms (Nat.not_lt_zero _)
    | succ fu ih_1 =>
      intro bb ls hms hb1 hbb hl
      refine lv_iload_n hx hb dX1_fallingPairs_4 rfl (lv_at hl 2 rfl) ?_
      refine lv_aload_n hx hb dX1_fallingPairs_5 rfl (lv_at hl 0 rfl) ?_
      refine x_get (T := TX1) (N := 11) (v := .int (nI M)) hx hb hts in_X1 hown hK (hP 0 _ rfl) rfl 0 (by decide) k_f48 (fun _ h9 => h9) (congrArg (fun z => some (Value.int z)) hM) dX1_fallingPairs_6 ?_
      refine x_icmp_ge (tgt := 49) hx hb (by omega) (by omega) dX1_fallingPairs_9 (by decide) (fun c_2 => ?_) (fun c_2 => ?_)
      · refine lv_iload_n hx hb dX1_fallingPairs_49 rfl (lv_at hl 1 rfl) ?_
        exact x_rdi hQ hx hb hr rfl hlk (by rcases Nat.lt_or_ge M 1 with z | z; exact (by rw [show bb = 1 by omega, show M = 0 by omega]; rfl); exact (by rw [show bb = M by omega])) dX1_fallingPairs_50
      · refine lv_iconst (v := nI 0) hx hb dX1_fallingPairs_12 (by decide +kernel) ?_
        refine lv_istore_n (lv' := [(3, .int (nI 0)), (0, .ref (rb 0)), (1, .int (nI (colC (fallB (ra 2)) bb))), (2, .int (nI bb))]) hx hb dX1_fallingPairs_13 rfl hl (by decide) rfl (fun ls hl => ?_)
        have loop_3 : ∀ (fu : Nat) (aa : Nat)  (ls : Array Slot), bb - aa < fu → (aa ≤ bb) → lv_has ls 4 [(0, .ref (rb 0)), (1, .int (nI (colC (fallB (ra 2)) bb + cnt (fun a => (fallB (ra 2)) a bb) aa))), (2, .int (nI bb)), (3, .int (nI aa))] → W p l e rmX1_fallingPairs s m [.ref (rb 0)].toArray below meth c H [] 0 0 Q (F0 m 14 ls []) := by
          intro fu
          induction fu with
          | zero => intro aa ls hms haa hl; exact absurd hms (Nat.not_lt_zero _)
          | succ fu ih_3 =>
            intro aa ls hms haa hl
            refine lv_iload_n hx hb dX1_fallingPairs_14 rfl (lv_at hl 3 rfl) ?_
            refine lv_iload_n hx hb dX1_fallingPairs_15 rfl (lv_at hl 2 rfl) ?_
            refine x_icmp_ge (tgt := 43) hx hb (by omega) (by omega) dX1_fallingPairs_16 (by decide) (fun c_4 => ?_) (fun c_4 => ?_)
            · have hl : lv_has ls 4 [(0, .ref (rb 0)), (1, .int (nI (colC (fallB (ra 2)) (bb + 1)))), (2, .int (nI bb)), (3, .int (nI aa))] := by
                have e9 : (colC (fallB (ra 2)) (bb + 1)) = (colC (fallB (ra 2)) bb + cnt (fun a => (fallB (ra 2)) a bb) aa) := by rw [show aa = bb by omega]; rfl
                rw [e9]; exact hl
              refine lv_iinc (v := nI (bb + 1)) (lv' := [(2, .int (nI (bb + 1))), (0, .ref (rb 0)), (1, .int (nI (colC (fallB (ra 2)) (bb + 1)))), (3, .int (nI aa))]) hx hb dX1_fallingPairs_43 hl (k := 2) rfl (nI_incn _) (by decide) rfl (fun ls hl => ?_)
              refine lv_goto (tgt := 4) hx hb dX1_fallingPairs_46 (by decide) ?_
              exact ih_1 (bb + 1) ls (by omega) (by omega) (by omega) (lv_sub hl [1, 2, 0] rfl)
            · refine lv_aload_n hx hb dX1_fallingPairs_19 rfl (lv_at hl 0 rfl) ?_
              refine x_get (T := TX1) (N := 11) (v := .ref (rb 3)) hx hb hts in_X1 hown hK (hP 0 _ rfl) rfl 7 (by decide) k_f18 (fun _ h9 => h9) (rfl) dX1_fallingPairs_20 ?_
              refine lv_iload_n hx hb dX1_fallingPairs_23 rfl (lv_at hl 2 rfl) ?_
              refine x_ialdN hx hb hK (hP 3 _ rfl) (by omega) (by decide) dX1_fallingPairs_24 ?_
              refine lv_aload_n hx hb dX1_fallingPairs_25 rfl (lv_at hl 0 rfl) ?_
              refine x_get (T := TX1) (N := 11) (v := .ref (rb 3)) hx hb hts in_X1 hown hK (hP 0 _ rfl) rfl 7 (by decide) k_f18 (fun _ h9 => h9) (rfl) dX1_fallingPairs_26 ?_
              refine lv_iload_n hx hb dX1_fallingPairs_29 rfl (lv_at hl 3 rfl) ?_
              refine x_ialdN hx hb hK (hP 3 _ rfl) (by omega) (by decide) dX1_fallingPairs_30 ?_
              refine lv_icmp_ge (tgt := 37) hx hb dX1_fallingPairs_31 (by decide) (fun c_5 => ?_) (fun c_5 => ?_)
              · have hl : lv_has ls 4 [(0, .ref (rb 0)), (1, .int (nI (colC (fallB (ra 2)) bb + cnt (fun a => (fallB (ra 2)) a bb) (aa + 1)))), (2, .int (nI bb)), (3, .int (nI aa))] := by
                  have e9 : (colC (fallB (ra 2)) bb + cnt (fun a => (fallB (ra 2)) a bb) (aa + 1)) = (colC (fallB (ra 2)) bb + cnt (fun a => (fallB (ra 2)) a bb) aa) := by show _ + (_ + ((fallB (ra 2)) aa bb).toNat) = _; rw [show (fallB (ra 2)) aa bb = false from decide_eq_false (Int32.not_lt.mpr c_5)]; rfl
                  rw [e9]; exact hl
                refine lv_iinc (v := nI (aa + 1)) (lv' := [(3, .int (nI (aa + 1))), (0, .ref (rb 0)), (1, .int (nI (colC (fallB (ra 2)) bb + cnt (fun a => (fallB (ra 2)) a bb) (aa + 1)))), (2, .int (nI bb))]) hx hb dX1_fallingPairs_37 hl (k := 3) rfl (nI_incn _) (by decide) rfl (fun ls hl => ?_)
                refine lv_goto (tgt := 14) hx hb dX1_fallingPairs_40 (by decide) ?_
                exact ih_3 (aa + 1) ls (by omega) (by omega) (lv_sub hl [1, 2, 3, 0] rfl)
              · refine lv_iinc (v := nI ((colC (fallB (ra 2)) bb + cnt (fun a => (fallB (ra 2)) a bb) aa) + 1)) (lv' := [(1, .int (nI ((colC (fallB (ra 2)) bb + cnt (fun a => (fallB (ra 2)) a bb) aa) + 1))), (0, .ref (rb 0)), (2, .int (nI bb)), (3, .int (nI aa))]) hx hb dX1_fallingPairs_34 hl (k := 1) rfl (nI_incn _) (by decide) rfl (fun ls hl => ?_)
                have hl : lv_has ls 4 [(1, .int (nI (colC (fallB (ra 2)) bb + cnt (fun a => (fallB (ra 2)) a bb) (aa + 1)))), (0, .ref (rb 0)), (2, .int (nI bb)), (3, .int (nI aa))] := by
                  have e9 : (colC (fallB (ra 2)) bb + cnt (fun a => (fallB (ra 2)) a bb) (aa + 1)) = (colC (fallB (ra 2)) bb + cnt (fun a => (fallB (ra 2)) a bb) aa) + 1 := by show _ + (_ + ((fallB (ra 2)) aa bb).toNat) = _; rw [show (fallB (ra 2)) aa bb = true from decide_eq_true (Int32.not_le.mp c_5)]; rfl
                  rw [e9]; exact hl
                refine lv_iinc (v := nI (aa + 1)) (lv' := [(3, .int (nI (aa + 1))), (1, .int (nI (colC (fallB (ra 2)) bb + cnt (fun a => (fallB (ra 2)) a bb) (aa + 1)))), (0, .ref (rb 0)), (2, .int (nI bb))]) hx hb dX1_fallingPairs_37 hl (k := 3) rfl (nI_incn _) (by decide) rfl (fun ls hl => ?_)
                refine lv_goto (tgt := 14) hx hb dX1_fallingPairs_40 (by decide) ?_
                exact ih_3 (aa + 1) ls (by omega) (by omega) (lv_sub hl [2, 1, 3, 0] rfl)
        exact loop_3 _ 0 ls (Nat.lt_succ_self _) (Nat.zero_le _) (lv_sub hl [1, 2, 3, 0] rfl)
  exact loop_1 _ 1 ls (Nat.lt_succ_self _) (Nat.le_refl _) (Or.inr rfl) (lv_sub hl [2, 1, 0] rfl)
/-- is the j-th seer ahead of the i-th -/
def ahR (r : Nat → Int32) (q : Nat → Nat) (i j : Nat) : Bool := decide (r j < r i) || (decide (r j = r i) && decide (q j < q i))
abbrev rmX1_stationsAheadOf : Room := { frames := 0, cells := 0, slots := 0, locals := 0 }
theorem qdX1_stationsAheadOf : yX1_stationsAheadOf.cls = RX1 ∧ yX1_stationsAheadOf.cls ≠ "java/lang/invoke/MethodHandle" ∧ yX1_stationsAheadOf.cls ≠ "java/lang/invoke/VarHandle" ∧ (parseMethodDescriptor yX1_stationsAheadOf.desc).map (fun d => d.parameters.length) = some 1 := by decide +kernel
set_option maxHeartbeats 4000000 in
set_option maxRecDepth 100000 in
theorem c_X1_stationsAheadOf {l : Launch} {G : gT} {rb : Nat → Nat} {ri : Nat → Int32} {ra : Nat → Nat → Int32} {H : Heap} (hP : rP G rb ri ra H) {M ii : Nat} {q : Nat → Nat} (hM : ri 0 = nI M) (hM12 : M ≤ 12) (hq : ∀ k, k < M → ra 0 k = nI (q k)) (hq12 : ∀ k, k < M → q k < 12) (hii : ii < M) : Rd G l yX1_stationsAheadOf wsX1_stationsAheadOf rmX1_stationsAheadOf [.ref (rb 0), .int (nI ii)] H (.int (nI (cnt (ahR (ra 2) q ii) M))) := by
  refine x_head (bytes := cX1_stationsAheadOf) (maxL := 5) (ret := (some .int)) (by decide) rfl (Nat.le_of_ble_eq_true rfl) ?_
  intro p e s m below meth c ls hx hb hml hown hts hr hlk hnm hK hs0 hl Q hQ
  have hl : lv_has ls 5 [(0, .ref (rb 0)), (1, .int (nI ii))] := hl
  have hC : CallFix p m c cX1_stationsAheadOf 5 s [.ref (rb 0), .int (nI ii)].toArray wsX1_stationsAheadOf RX1 := ⟨hx, hb, hml, hown, hts⟩
  have k_f48 := hts (.fieldLink RX1 48 "SundogLine$Reckoning" "seen" "I") (by decide +kernel)
  have in_X1 : ∀ w ∈ u_ws RX1 TX1 11, w ∈ wsX1_stationsAheadOf := by decide +kernel
  have k_f18 := hts (.fieldLink RX1 18 "SundogLine$Reckoning" "readings" "[I") (by decide +kernel)
  have k_f9 := hts (.fieldLink RX1 9 "SundogLine$Reckoning" "numbers" "[I") (by decide +kernel)
  have hqi := hq12 ii hii
  refine lv_iconst (v := nI 0) hx hb dX1_stationsAheadOf_0 (by decide +kernel) ?_
  refine lv_istore_n (lv' := [(2, .int (nI 0)), (0, .ref (rb 0)), (1, .int (nI ii))]) hx hb dX1_stationsAheadOf_1 rfl hl (by decide) rfl (fun ls hl => ?_)
  refine lv_iconst (v := nI 0) hx hb dX1_stationsAheadOf_2 (by decide +kernel) ?_
  refine lv_istore_n (lv' := [(3, .int (nI 0)), (2, .int (nI 0)), (0, .ref (rb 0)), (1, .int (nI ii))]) hx hb dX1_stationsAheadOf_3 rfl hl (by decide) rfl (fun ls hl => ?_)
  have loop_1 : ∀ (fu : Nat) (jj : Nat)  (ls : Array Slot), M - jj < fu → (jj ≤ M) → lv_has ls 5 [(0, .ref (rb 0)), (1, .int (nI ii)), (2, .int (nI (cnt (ahR (ra 2) q ii) jj))), (3, .int (nI jj))] → W p l e rmX1_stationsAheadOf s m [.ref (rb 0), .int (nI ii)].toArray below meth c H [] 0 0 Q (F0 m 4 ls []) := by
    intro fu
    induction fu with
    | zero => intro jj ls hms hjj hl; exact absurd hms (Nat.not_lt_zero _)
    | succ fu ih_1 =>
      intro jj ls hms hjj hl
      refine lv_iload_n hx hb dX1_stationsAheadOf_4 rfl (lv_at hl 3 rfl) ?_
      refine lv_aload_n hx hb dX1_stationsAheadOf_5 rfl (lv_at hl 0 rfl) ?_
      refine x_get (T := TX1) (N := 11) (v := .int (nI M)) hx hb hts in_X1 hown hK (hP 0 _ rfl) rfl 0 (by decide) k_f48 (fun _ h9 => h9) (congrArg (fun z => some (Value.int z)) hM) dX1_stationsAheadOf_6 ?_
      refine x_icmp_ge (tgt := 78) hx hb (by omega) (by omega) dX1_stationsAheadOf_9 (by decide) (fun c_2 => ?_) (fun c_2 => ?_)
      · refine lv_iload_n hx hb dX1_stationsAheadOf_78 rfl (lv_at hl 2 rfl) ?_
        exact x_rdi hQ hx hb hr rfl hlk (by rw [show jj = M by omega]) dX1_stationsAheadOf_79
      · have hqj := hq12 jj (by omega)
        have j_3 : W p l e rmX1_stationsAheadOf s m [.ref (rb 0), .int (nI ii)].toArray below meth c H [] 0 0 Q (F0 m 32 ls [.int (bI (decide (ra 2 jj < ra 2 ii)))]) := by
          refine lv_istore (lv' := [(4, .int (bI (decide (ra 2 jj < ra 2 ii)))), (0, .ref (rb 0)), (1, .int (nI ii)), (2, .int (nI (cnt (ahR (ra 2) q ii) jj))), (3, .int (nI jj))]) hx hb dX1_stationsAheadOf_32 hl (by decide) rfl (fun ls hl => ?_)
          refine lv_iload hx hb dX1_stationsAheadOf_34 (lv_at hl 0 rfl) ?_
          refine x_if_neB (tgt := 69) hx hb dX1_stationsAheadOf_36 (by decide) (fun c_4 => ?_) (fun c_4 => ?_)
          · refine lv_iinc (v := nI ((cnt (ahR (ra 2) q ii) jj) + 1)) (lv' := [(2, .int (nI ((cnt (ahR (ra 2) q ii) jj) + 1))), (4, .int (bI (decide (ra 2 jj < ra 2 ii)))), (0, .ref (rb 0)), (1, .int (nI ii)), (3, .int (nI jj))]) hx hb dX1_stationsAheadOf_69 hl (k := 3) rfl (nI_incn _) (by decide) rfl (fun ls hl => ?_)
            have hl : lv_has ls 5 [(2, .int (nI (cnt (ahR (ra 2) q ii) (jj + 1)))), (4, .int (bI (decide (ra 2 jj < ra 2 ii)))), (0, .ref (rb 0)), (1, .int (nI ii)), (3, .int (nI jj))] := by
              have e9 : (cnt (ahR (ra 2) q ii) (jj + 1)) = (cnt (ahR (ra 2) q ii) jj) + 1 := by show _ + ((ahR (ra 2) q ii) jj).toNat = _; rw [show (ahR (ra 2) q ii) jj = true by rw [ahR, c_4]; rfl]; rfl
              rw [e9]; exact hl
            refine lv_iinc (v := nI (jj + 1)) (lv' := [(3, .int (nI (jj + 1))), (2, .int (nI (cnt (ahR (ra 2) q ii) (jj + 1)))), (4, .int (bI (decide (ra 2 jj < ra 2 ii)))), (0, .ref (rb 0)), (1, .int (nI ii))]) hx hb dX1_stationsAheadOf_72 hl (k := 4) rfl (nI_incn _) (by decide) rfl (fun ls hl => ?_)
            refine lv_goto (tgt := 4) hx hb dX1_stationsAheadOf_75 (by decide) ?_
            exact ih_1 (jj + 1) ls (by omega) (by omega) (lv_sub hl [3, 4, 1, 0] rfl)
          · refine lv_aload_n hx hb dX1_stationsAheadOf_39 rfl (lv_at hl 1 rfl) ?_
            refine x_get (T := TX1) (N := 11) (v := .ref (rb 3)) hx hb hts in_X1 hown hK (hP 0 _ rfl) rfl 7 (by decide) k_f18 (fun _ h9 => h9) (rfl) dX1_stationsAheadOf_40 ?_
            refine lv_iload_n hx hb dX1_stationsAheadOf_43 rfl (lv_at hl 4 rfl) ?_
            refine x_ialdN hx hb hK (hP 3 _ rfl) (by omega) (by decide) dX1_stationsAheadOf_44 ?_
            refine lv_aload_n hx hb dX1_stationsAheadOf_45 rfl (lv_at hl 1 rfl) ?_
            refine x_get (T := TX1) (N := 11) (v := .ref (rb 3)) hx hb hts in_X1 hown hK (hP 0 _ rfl) rfl 7 (by decide) k_f18 (fun _ h9 => h9) (rfl) dX1_stationsAheadOf_46 ?_
            refine lv_iload_n hx hb dX1_stationsAheadOf_49 rfl (lv_at hl 2 rfl) ?_
            refine x_ialdN hx hb hK (hP 3 _ rfl) (by omega) (by decide) dX1_stationsAheadOf_50 ?_
            refine lv_icmp_ne (tgt := 72) hx hb dX1_stationsAheadOf_51 (by decide) (fun c_5 => ?_) (fun c_5 => ?_)
            · have hl : lv_has ls 5 [(4, .int (bI (decide (ra 2 jj < ra 2 ii)))), (0, .ref (rb 0)), (1, .int (nI ii)), (2, .int (nI (cnt (ahR (ra 2) q ii) (jj + 1)))), (3, .int (nI jj))] := by
                have e9 : (cnt (ahR (ra 2) q ii) (jj + 1)) = (cnt (ahR (ra 2) q ii) jj) := by show _ + ((ahR (ra 2) q ii) jj).toNat = _; rw [show (ahR (ra 2) q ii) jj = false by rw [ahR, c_4, decide_eq_false c_5]; rfl]; rfl
                rw [e9]; exact hl
              refine lv_iinc (v := nI (jj + 1)) (lv' := [(3, .int (nI (jj + 1))), (4, .int (bI (decide (ra 2 jj < ra 2 ii)))), (0, .ref (rb 0)), (1, .int (nI ii)), (2, .int (nI (cnt (ahR (ra 2) q ii) (jj + 1))))]) hx hb dX1_stationsAheadOf_72 hl (k := 4) rfl (nI_incn _) (by decide) rfl (fun ls hl => ?_)
              refine lv_goto (tgt := 4) hx hb dX1_stationsAheadOf_75 (by decide) ?_
              exact ih_1 (jj + 1) ls (by omega) (by omega) (lv_sub hl [2, 3, 4, 0] rfl)
            · refine lv_aload_n hx hb dX1_stationsAheadOf_54 rfl (lv_at hl 1 rfl) ?_
              refine x_get (T := TX1) (N := 11) (v := .ref (rb 1)) hx hb hts in_X1 hown hK (hP 0 _ rfl) rfl 5 (by decide) k_f9 (fun _ h9 => h9) (rfl) dX1_stationsAheadOf_55 ?_
              refine lv_iload_n hx hb dX1_stationsAheadOf_58 rfl (lv_at hl 4 rfl) ?_
              refine x_ialdN hx hb hK (hP 1 _ rfl) (by omega) (by decide) dX1_stationsAheadOf_59 ?_
              refine W.eq (g2 := F0 m 60 ls [.int (nI (q jj))]) (congrArg (fun z => F0 m 60 ls (.int z :: [])) (hq _ (by omega))) ?_
              refine lv_aload_n hx hb dX1_stationsAheadOf_60 rfl (lv_at hl 1 rfl) ?_
              refine x_get (T := TX1) (N := 11) (v := .ref (rb 1)) hx hb hts in_X1 hown hK (hP 0 _ rfl) rfl 5 (by decide) k_f9 (fun _ h9 => h9) (rfl) dX1_stationsAheadOf_61 ?_
              refine lv_iload_n hx hb dX1_stationsAheadOf_64 rfl (lv_at hl 2 rfl) ?_
              refine x_ialdN hx hb hK (hP 1 _ rfl) (by omega) (by decide) dX1_stationsAheadOf_65 ?_
              refine W.eq (g2 := F0 m 66 ls [.int (nI (q ii)), .int (nI (q jj))]) (congrArg (fun z => F0 m 66 ls (.int z :: [.int (nI (q jj))])) (hq _ (by omega))) ?_
              refine x_icmp_ge (tgt := 72) hx hb (by omega) (by omega) dX1_stationsAheadOf_66 (by decide) (fun c_6 => ?_) (fun c_6 => ?_)
              · have hl : lv_has ls 5 [(4, .int (bI (decide (ra 2 jj < ra 2 ii)))), (0, .ref (rb 0)), (1, .int (nI ii)), (2, .int (nI (cnt (ahR (ra 2) q ii) (jj + 1)))), (3, .int (nI jj))] := by
                  have e9 : (cnt (ahR (ra 2) q ii) (jj + 1)) = (cnt (ahR (ra 2) q ii) jj) := by show _ + ((ahR (ra 2) q ii) jj).toNat = _; rw [show (ahR (ra 2) q ii) jj = false by rw [ahR, c_4, decide_eq_true c_5, decide_eq_false (Nat.not_lt.mpr c_6)]; rfl]; rfl
                  rw [e9]; exact hl
                refine lv_iinc (v := nI (jj + 1)) (lv' := [(3, .int (nI (jj + 1))), (4, .int (bI (decide (ra 2 jj < ra 2 ii)))), (0, .ref (rb 0)), (1, .int (nI ii)), (2, .int (nI (cnt (ahR (ra 2) q ii) (jj + 1))))]) hx hb dX1_stationsAheadOf_72 hl (k := 4) rfl (nI_incn _) (by decide) rfl (fun ls hl => ?_)
                refine lv_goto (tgt := 4) hx hb dX1_stationsAheadOf_75 (by decide) ?_
                exact ih_1 (jj + 1) ls (by omega) (by omega) (lv_sub hl [2, 3, 4, 0] rfl)
              · refine lv_iinc (v := nI ((cnt (ahR (ra 2) q ii) jj) + 1)) (lv' := [(2, .int (nI ((cnt (ahR (ra 2) q ii) jj) + 1))), (4, .int (bI (decide (ra 2 jj < ra 2 ii)))), (0, .ref (rb 0)), (1, .int (nI ii)), (3, .int (nI jj))]) hx hb dX1_stationsAheadOf_69 hl (k := 3) rfl (nI_incn _) (by decide) rfl (fun ls hl => ?_)
                have hl : lv_has ls 5 [(2, .int (nI (cnt (ahR (ra 2) q ii) (jj + 1)))), (4, .int (bI (decide (ra 2 jj < ra 2 ii)))), (0, .ref (rb 0)), (1, .int (nI ii)), (3, .int (nI jj))] := by
                  have e9 : (cnt (ahR (ra 2) q ii) (jj + 1)) = (cnt (ahR (ra 2) q ii) jj) + 1 := by show _ + ((ahR (ra 2) q ii) jj).toNat = _; rw [show (ahR (ra 2) q ii) jj = true by rw [ahR, c_4, decide_eq_true c_5, decide_eq_true c_6]; rfl]; rfl
                  rw [e9]; exact hl
                refine lv_iinc (v := nI (jj + 1)) (lv' := [(3, .int (nI (jj + 1))), (2, .int (nI (cnt (ahR (ra 2) q ii) (jj + 1)))), (4, .int (bI (decide (ra 2 jj < ra 2 ii)))), (0, .ref (rb 0)), (1, .int (nI ii))]) hx hb dX1_stationsAheadOf_72 hl (k := 4) rfl (nI_incn _) (by decide) rfl (fun ls hl => ?_)
                refine lv_goto (tgt := 4) hx hb dX1_stationsAheadOf_75 (by decide) ?_
                exact ih_1 (jj + 1) ls (by omega) (by omega) (lv_sub hl [3, 4, 1, 0] rfl)
        refine lv_aload_n hx hb dX1_stationsAheadOf_12 rfl (lv_at hl 0 rfl) ?_
        refine x_get (T := TX1) (N := 11) (v := .ref (rb 3)) hx hb hts in_X1 hown hK (hP 0 _ rfl) rfl 7 (by decide) k_f18 (fun _ h9 => h9) (rfl) dX1_stationsAheadOf_13 ?_
        refine lv_iload_n hx hb dX1_stationsAheadOf_16 rfl (lv_at hl 3 rfl) ?_
        refine x_ialdN hx hb hK (hP 3 _ rfl) (by omega) (by decide) dX1_stationsAheadOf_17 ?_
        refine lv_aload_n hx hb dX1_stationsAheadOf_18 rfl (lv_at hl 0 rfl) ?_
        refine x_get (T := TX1) (N := 11) (v := .ref (rb 3)) hx hb hts in_X1 hown hK (hP 0 _ rfl) rfl 7 (by decide) k_f18 (fun _ h9 => h9) (rfl) dX1_stationsAheadOf_19 ?_
        refine lv_iload_n hx hb dX1_stationsAheadOf_22 rfl (lv_at hl 1 rfl) ?_
        refine x_ialdN hx hb hK (hP 3 _ rfl) (by omega) (by decide) dX1_stationsAheadOf_23 ?_
        refine lv_icmp_ge (tgt := 31) hx hb dX1_stationsAheadOf_24 (by decide) (fun c_7 => ?_) (fun c_7 => ?_)
        · refine lv_iconst (v := nI 0) hx hb dX1_stationsAheadOf_31 (by decide +kernel) ?_
          exact W.eq (g2 := F0 m 32 ls [.int (bI (decide (ra 2 jj < ra 2 ii)))]) (congrArg (fun z => F0 m 32 ls (.int z :: [])) (bI_z (decide_eq_false (Int32.not_lt.mpr c_7)))) j_3
        · refine lv_iconst (v := nI 1) hx hb dX1_stationsAheadOf_27 (by decide +kernel) ?_
          refine lv_goto (tgt := 32) hx hb dX1_stationsAheadOf_28 (by decide) ?_
          exact W.eq (g2 := F0 m 32 ls [.int (bI (decide (ra 2 jj < ra 2 ii)))]) (congrArg (fun z => F0 m 32 ls (.int z :: [])) (bI_o (decide_eq_true (Int32.not_le.mp c_7)))) j_3
  exact loop_1 _ 0 ls (Nat.lt_succ_self _) (Nat.zero_le _) (lv_sub hl [2, 3, 1, 0] rfl)
/-- the place of the first seer of k with f, as the class seeks it -/
def ordR (M : Nat) (r : Nat → Int32) (q : Nat → Nat) (x : Int32) (i : Nat) : Bool := decide (nI (cnt (ahR r q i) M) = x)
def onQ (q : Nat → Nat) : Option Nat → Int32
  | none => -1
  | some j => nI (q j)
abbrev rmX1_stationInOrder : Room := { frames := 1, cells := 0, slots := 0, locals := 24 }
theorem qdX1_stationInOrder : yX1_stationInOrder.cls = RX1 ∧ yX1_stationInOrder.cls ≠ "java/lang/invoke/MethodHandle" ∧ yX1_stationInOrder.cls ≠ "java/lang/invoke/VarHandle" ∧ (parseMethodDescriptor yX1_stationInOrder.desc).map (fun d => d.parameters.length) = some 1 := by decide +kernel
set_option maxHeartbeats 4000000 in
set_option maxRecDepth 100000 in
theorem c_X1_stationInOrder {l : Launch} {G : gT} {rb : Nat → Nat} {ri : Nat → Int32} {ra : Nat → Nat → Int32} {H : Heap} (hP : rP G rb ri ra H) {M : Nat} {q : Nat → Nat} {x : Int32} (hM : ri 0 = nI M) (hM12 : M ≤ 12) (hq : ∀ k, k < M → ra 0 k = nI (q k)) (hq12 : ∀ k, k < M → q k < 12) : Rd G l yX1_stationInOrder wsX1_stationInOrder rmX1_stationInOrder [.ref (rb 0), .int x] H (.int (onQ q (findI (ordR M (ra 2) q x) M))) := by
  refine x_head (bytes := cX1_stationInOrder) (maxL := 3) (ret := (some .int)) (by decide) rfl (Nat.le_of_ble_eq_true rfl) ?_
  intro p e s m below meth c ls hx hb hml hown hts hr hlk hnm hK hs0 hl Q hQ
  have hl : lv_has ls 3 [(0, .ref (rb 0)), (1, .int x)] := hl
  have hC : CallFix p m c cX1_stationInOrder 3 s [.ref (rb 0), .int x].toArray wsX1_stationInOrder RX1 := ⟨hx, hb, hml, hown, hts⟩
  have k_f48 := hts (.fieldLink RX1 48 "SundogLine$Reckoning" "seen" "I") (by decide +kernel)
  have in_X1 : ∀ w ∈ u_ws RX1 TX1 11, w ∈ wsX1_stationInOrder := by decide +kernel
  have k_f9 := hts (.fieldLink RX1 9 "SundogLine$Reckoning" "numbers" "[I") (by decide +kernel)
  refine lv_iconst (v := nI 0) hx hb dX1_stationInOrder_0 (by decide +kernel) ?_
  refine lv_istore_n (lv' := [(2, .int (nI 0)), (0, .ref (rb 0)), (1, .int x)]) hx hb dX1_stationInOrder_1 rfl hl (by decide) rfl (fun ls hl => ?_)
  have loop_1 : ∀ (fu : Nat) (ii : Nat)  (ls : Array Slot), M - ii < fu → (ii ≤ M) → (findI (ordR M (ra 2) q x) ii = none) → lv_has ls 3 [(0, .ref (rb 0)), (1, .int x), (2, .int (nI ii))] → W p l e rmX1_stationInOrder s m [.ref (rb 0), .int x].toArray below meth c H [] 0 0 Q (F0 m 2 ls []) := by
    intro fu
    induction fu with
    | zero => intro ii ls hms hii hfi hl; exact absurd hms (Nat.not_lt_zero _)
    | succ fu ih_1 =>
      intro ii ls hms hii hfi hl
      refine lv_iload_n hx hb dX1_stationInOrder_2 rfl (lv_at hl 2 rfl) ?_
      refine lv_aload_n hx hb dX1_stationInOrder_3 rfl (lv_at hl 0 rfl) ?_
      refine x_get (T := TX1) (N := 11) (v := .int (nI M)) hx hb hts in_X1 hown hK (hP 0 _ rfl) rfl 0 (by decide) k_f48 (fun _ h9 => h9) (congrArg (fun z => some (Value.int z)) hM) dX1_stationInOrder_4 ?_
      refine x_icmp_ge (tgt := 32) hx hb (by omega) (by omega) dX1_stationInOrder_7 (by decide) (fun c_2 => ?_) (fun c_2 => ?_)
      · refine lv_iconst (v := (-1)) hx hb dX1_stationInOrder_32 (by decide +kernel) ?_
        exact x_rdi hQ hx hb hr rfl hlk (by rw [show findI (ordR M (ra 2) q x) M = none by rw [← show ii = M by omega]; rw [show ii = M by omega] at hfi; rw [show ii = M by omega]; exact hfi]; rfl) dX1_stationInOrder_33
      · refine lv_aload_n hx hb dX1_stationInOrder_10 rfl (lv_at hl 0 rfl) ?_
        refine lv_iload_n hx hb dX1_stationInOrder_11 rfl (lv_at hl 2 rfl) ?_
        refine x_rd (va_runV (As := [.int (nI ii)]) (rest := []) hC (c_X1_stationsAheadOf hP hM hM12 hq hq12 (by omega)) (cwV 1 hts gX1_stationInOrder_X1_stationsAheadOf rfl rfl rfl qdX1_stationsAheadOf ⟨Nat.le_of_ble_eq_true rfl, Nat.le_of_ble_eq_true rfl⟩) (x_preV hK (x_recv hK (hP 0 _ rfl) rfl)) rfl rfl hl.1 rfl (lv_room (Nat.le_of_ble_eq_true rfl)) dX1_stationInOrder_12 ⟨Nat.le_of_ble_eq_true rfl, Nat.le_of_ble_eq_true rfl⟩) ?_
        refine lv_iload_n hx hb dX1_stationInOrder_15 rfl (lv_at hl 1 rfl) ?_
        refine lv_icmp_ne (tgt := 26) hx hb dX1_stationInOrder_16 (by decide) (fun c_3 => ?_) (fun c_3 => ?_)
        · refine lv_iinc (v := nI (ii + 1)) (lv' := [(2, .int (nI (ii + 1))), (0, .ref (rb 0)), (1, .int x)]) hx hb dX1_stationInOrder_26 hl (k := 2) rfl (nI_incn _) (by decide) rfl (fun ls hl => ?_)
          refine lv_goto (tgt := 2) hx hb dX1_stationInOrder_29 (by decide) ?_
          exact ih_1 (ii + 1) ls (by omega) (by omega) (findI_no hfi (decide_eq_false c_3)) (lv_sub hl [1, 2, 0] rfl)
        · refine lv_aload_n hx hb dX1_stationInOrder_19 rfl (lv_at hl 0 rfl) ?_
          refine x_get (T := TX1) (N := 11) (v := .ref (rb 1)) hx hb hts in_X1 hown hK (hP 0 _ rfl) rfl 5 (by decide) k_f9 (fun _ h9 => h9) (rfl) dX1_stationInOrder_20 ?_
          refine lv_iload_n hx hb dX1_stationInOrder_23 rfl (lv_at hl 2 rfl) ?_
          refine x_ialdN hx hb hK (hP 1 _ rfl) (by omega) (by decide) dX1_stationInOrder_24 ?_
          refine W.eq (g2 := F0 m 25 ls [.int (nI (q ii))]) (congrArg (fun z => F0 m 25 ls (.int z :: [])) (hq _ (by omega))) ?_
          exact x_rdi hQ hx hb hr rfl hlk (by rw [findI_up hfi (decide_eq_true c_3) M (by omega)]; rfl) dX1_stationInOrder_25
  exact loop_1 _ 0 ls (Nat.lt_succ_self _) (Nat.zero_le _) (rfl) (lv_sub hl [1, 2, 0] rfl)
theorem x_rdd {p : Program} {l : Launch} {e : Env} {R : Room} {s : State} {m : MethodId} {args : Array Value} {below : List Frame} {meth : Method} {c : Code} {H : Heap} {Q : State → Prop} {cA : ByteArray} {v : UInt64} {w : Value} (hQ : Q = MQ below (QH (oR w H)) args s 0 0 (fun _ => False)) (hexec : p.tables.exec = Jvm.exec) (hb : c.code = cA) (hr : meth.sig.returnType = some .double) (hlocks : meth.locks = false) (hv : Value.double v = w)
    {pc : Nat} {ls : Array Slot} (hdg : decode cA pc = .ok (.dreturn, 1)) : W p l e R s m args below meth c H [] 0 0 Q (F0 m pc ls [.double v]) := by
  subst hv hQ
  exact W.dret hexec hb hr (fun t ht _ => ⟨rfl, ht⟩) (fun q h => by cases h) hdg hlocks
abbrev rmX1_meanLeft : Room := { frames := 1, cells := 0, slots := 0, locals := 17 }
theorem qdX1_meanLeft : yX1_meanLeft.cls = RX1 ∧ yX1_meanLeft.cls ≠ "java/lang/invoke/MethodHandle" ∧ yX1_meanLeft.cls ≠ "java/lang/invoke/VarHandle" ∧ (parseMethodDescriptor yX1_meanLeft.desc).map (fun d => d.parameters.length) = some 0 := by decide +kernel
set_option maxHeartbeats 4000000 in
set_option maxRecDepth 100000 in
theorem c_X1_meanLeft {l : Launch} {G : gT} {rb : Nat → Nat} {ri : Nat → Int32} {ra : Nat → Nat → Int32} {H : Heap} (hP : rP G rb ri ra H) {M : Nat} (hM : ri 0 = nI M) (hM12 : M ≤ 12) (hdn : noNaN) : Rd G l yX1_meanLeft wsX1_meanLeft rmX1_meanLeft [.ref (rb 0)] H (.double (if M < 2 then FP.dconst0 else FP.ddiv (FP.l2d (lsm (fun k => ab (ra 3 k)) M)) (FP.i2d (nI M)))) := by
  refine x_head (bytes := cX1_meanLeft) (maxL := 4) (ret := (some .double)) (by decide) rfl (Nat.le_of_ble_eq_true rfl) ?_
  intro p e s m below meth c ls hx hb hml hown hts hr hlk hnm hK hs0 hl Q hQ
  have hl : lv_has ls 4 [(0, .ref (rb 0))] := hl
  have hC : CallFix p m c cX1_meanLeft 4 s [.ref (rb 0)].toArray wsX1_meanLeft RX1 := ⟨hx, hb, hml, hown, hts⟩
  have k_f48 := hts (.fieldLink RX1 48 "SundogLine$Reckoning" "seen" "I") (by decide +kernel)
  have in_X1 : ∀ w ∈ u_ws RX1 TX1 11, w ∈ wsX1_meanLeft := by decide +kernel
  have k_f21 := hts (.fieldLink RX1 21 "SundogLine$Reckoning" "left" "[I") (by decide +kernel)
  have k_m96 := hts (.methodLink RX1 96 Lib.Math.abs.name) (by decide +kernel)
  have k_msabs := hts (.static Lib.Math.abs.name) (by decide +kernel)
  have k_mi := hts (.initialized "java/lang/Math") (by decide +kernel)
  have k_mcabs := hts (.code Lib.Math.abs.name Lib.Math.abs.code 1 (some .int)) (by decide +kernel)
  refine lv_aload_n hx hb dX1_meanLeft_0 rfl (lv_at hl 0 rfl) ?_
  refine x_get (T := TX1) (N := 11) (v := .int (nI M)) hx hb hts in_X1 hown hK (hP 0 _ rfl) rfl 0 (by decide) k_f48 (fun _ h9 => h9) (congrArg (fun z => some (Value.int z)) hM) dX1_meanLeft_1 ?_
  refine lv_iconst (v := nI 2) hx hb dX1_meanLeft_4 (by decide +kernel) ?_
  refine x_icmp_ge (tgt := 10) hx hb (by omega) (by omega) dX1_meanLeft_5 (by decide) (fun c_1 => ?_) (fun c_1 => ?_)
  · refine lv_lconst (v := 0) hx hb dX1_meanLeft_10 (by decide +kernel) ?_
    refine lv_lstore_n (lv' := [(1, .long 0), (0, .ref (rb 0))]) hx hb dX1_meanLeft_11 rfl hl (by decide) rfl (fun ls hl => ?_)
    refine lv_iconst (v := nI 0) hx hb dX1_meanLeft_12 (by decide +kernel) ?_
    refine lv_istore_n (lv' := [(3, .int (nI 0)), (1, .long 0), (0, .ref (rb 0))]) hx hb dX1_meanLeft_13 rfl hl (by decide) rfl (fun ls hl => ?_)
    have loop_2 : ∀ (fu : Nat) (k9 : Nat)  (ls : Array Slot), M - k9 < fu → (k9 ≤ M) → lv_has ls 4 [(0, .ref (rb 0)), (1, .long (lsm (fun k => ab (ra 3 k)) k9)), (3, .int (nI k9))] → W p l e rmX1_meanLeft s m [.ref (rb 0)].toArray below meth c H [] 0 0 Q (F0 m 14 ls []) := by
      intro fu
      induction fu with
      | zero => intro k9 ls hms hk9 hl; exact absurd hms (Nat.not_lt_zero _)
      | succ fu ih_2 =>
        intro k9 ls hms hk9 hl
        refine lv_iload_n hx hb dX1_meanLeft_14 rfl (lv_at hl 2 rfl) ?_
        refine lv_aload_n hx hb dX1_meanLeft_15 rfl (lv_at hl 0 rfl) ?_
        refine x_get (T := TX1) (N := 11) (v := .int (nI M)) hx hb hts in_X1 hown hK (hP 0 _ rfl) rfl 0 (by decide) k_f48 (fun _ h9 => h9) (congrArg (fun z => some (Value.int z)) hM) dX1_meanLeft_16 ?_
        refine x_icmp_ge (tgt := 41) hx hb (by omega) (by omega) dX1_meanLeft_19 (by decide) (fun c_3 => ?_) (fun c_3 => ?_)
        · refine lv_lload_n hx hb dX1_meanLeft_41 rfl (lv_at hl 1 rfl) ?_
          refine lv_l2d hx hb dX1_meanLeft_42 ?_
          refine lv_aload_n hx hb dX1_meanLeft_43 rfl (lv_at hl 0 rfl) ?_
          refine x_get (T := TX1) (N := 11) (v := .int (nI M)) hx hb hts in_X1 hown hK (hP 0 _ rfl) rfl 0 (by decide) k_f48 (fun _ h9 => h9) (congrArg (fun z => some (Value.int z)) hM) dX1_meanLeft_44 ?_
          refine lv_i2d hx hb dX1_meanLeft_47 ?_
          refine lv_ddiv hx hb dX1_meanLeft_48 (hdn _ _ (by omega) (by omega)) ?_
          exact x_rdd hQ hx hb hr hlk (by rw [if_neg (by omega), show k9 = M by omega]) dX1_meanLeft_49
        · refine lv_lload_n hx hb dX1_meanLeft_22 rfl (lv_at hl 1 rfl) ?_
          refine lv_aload_n hx hb dX1_meanLeft_23 rfl (lv_at hl 0 rfl) ?_
          refine x_get (T := TX1) (N := 11) (v := .ref (rb 4)) hx hb hts in_X1 hown hK (hP 0 _ rfl) rfl 8 (by decide) k_f21 (fun _ h9 => h9) (rfl) dX1_meanLeft_24 ?_
          refine lv_iload_n hx hb dX1_meanLeft_27 rfl (lv_at hl 2 rfl) ?_
          refine x_ialdN hx hb hK (hP 4 _ rfl) (by omega) (by decide) dX1_meanLeft_28 ?_
          refine va_mabs hx hb (hml.trans hl.1.symm) hown k_m96 k_msabs k_mi k_mcabs (by decide) (Nat.le_of_ble_eq_true rfl) (Nat.zero_le _) (Nat.zero_le _) dX1_meanLeft_29 ?_
          refine W.eq (g2 := F0 m 32 ls [.int (ab ((ra 3) k9)), .long (lsm (fun k => ab (ra 3 k)) k9)]) rfl ?_
          refine lv_i2l (v := (ab ((ra 3) k9)).toInt64) hx hb dX1_meanLeft_32 rfl ?_
          refine lv_ladd hx hb dX1_meanLeft_33 ?_
          refine lv_lstore_n (lv' := [(1, .long ((lsm (fun k => ab (ra 3 k)) k9) + ((ab ((ra 3) k9)).toInt64))), (0, .ref (rb 0)), (3, .int (nI k9))]) hx hb dX1_meanLeft_34 rfl hl (by decide) rfl (fun ls hl => ?_)
          refine lv_iinc (v := nI (k9 + 1)) (lv' := [(3, .int (nI (k9 + 1))), (1, .long ((lsm (fun k => ab (ra 3 k)) k9) + ((ab ((ra 3) k9)).toInt64))), (0, .ref (rb 0))]) hx hb dX1_meanLeft_35 hl (k := 2) rfl (nI_incn _) (by decide) rfl (fun ls hl => ?_)
          refine lv_goto (tgt := 14) hx hb dX1_meanLeft_38 (by decide) ?_
          exact ih_2 (k9 + 1) ls (by omega) (by omega) (lv_sub hl [2, 1, 0] rfl)
    exact loop_2 _ 0 ls (Nat.lt_succ_self _) (Nat.zero_le _) (lv_sub hl [2, 1, 0] rfl)
  · refine lv_dconst0 hx hb dX1_meanLeft_8 ?_
    exact x_rdd hQ hx hb hr hlk (by rw [if_pos c_1]) dX1_meanLeft_9
