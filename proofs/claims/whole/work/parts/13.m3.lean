abbrev rmX4_middle : Room := { frames := 0, cells := 0, slots := 0, locals := 0 }
theorem qdX4_middle : yX4_middle.cls = RX4 ∧ yX4_middle.cls ≠ "java/lang/invoke/MethodHandle" ∧ yX4_middle.cls ≠ "java/lang/invoke/VarHandle" ∧ (parseMethodDescriptor yX4_middle.desc).map (fun d => d.parameters.length) = some 1 := by decide +kernel
set_option maxHeartbeats 4000000 in
set_option maxRecDepth 100000 in
theorem c_X4_middle {l : Launch} {G : gT} {A : Nat → Prop} {b : Nat → Nat} {mi : Nat → Int32} {ma : Nat → Nat → Int32} {H0 : Heap} {N : Nat} (hP : mP G b mi ma H0) (hD : va_D A (mW G b mi ma)) (hN : 1 ≤ N) (hN4 : N ≤ 144) : WrI G l yX4_middle wsX4_middle rmX4_middle [.ref (b 0), .int (nI N)] H0 A (fun r H1 => r = mid (ma 4) N ∧ ∃ v, mP G b mi (va_up ma 4 v) H1) := by
  refine x_head (bytes := cX4_middle) (maxL := 5) (ret := (some .int)) (by decide) rfl (Nat.le_of_ble_eq_true rfl) ?_
  intro p e s m below meth c ls hx hb hml hown hts hr hlk hnm hK hs0 hl Q hQ
  have hl : lv_has ls 5 [(0, .ref (b 0)), (1, .int (nI N))] := hl
  have hC : CallFix p m c cX4_middle 5 s [.ref (b 0), .int (nI N)].toArray wsX4_middle RX4 := ⟨hx, hb, hml, hown, hts⟩
  have k_f22 := hts (.fieldLink RX4 22 "SundogLineModel" "values" "[I") (by decide +kernel)
  have in_X4 : ∀ w ∈ u_ws RX4 TX4 11, w ∈ wsX4_middle := by decide +kernel
  have hS : va_S A H0 H0 [] := va_S.rf
  refine lv_iconst (v := nI 1) hx hb dX4_middle_0 (by decide +kernel) ?_
  refine lv_istore_n (lv' := [(2, .int (nI 1)), (0, .ref (b 0)), (1, .int (nI N))]) hx hb dX4_middle_1 rfl hl (by decide) rfl (fun ls hl => ?_)
  have hP : mP G b mi (va_up ma 4 (ma 4)) H0 := hP
  have hD : va_D A (mW G b mi (va_up ma 4 (ma 4))) := hD.same rfl
  have loop_1 : ∀ (fu : Nat) (k : Nat) (v : Nat → Int32) (H : Heap) (locs : List Loc) (ls : Array Slot), N - k < fu → (1 ≤ k) → (k ≤ N) → (insI (ma 4) v N k) → (va_P (gD G) vC (mW G b mi (va_up ma 4 v)) H) → (va_S A H0 H locs) → lv_has ls 5 [(0, .ref (b 0)), (1, .int (nI N)), (2, .int (nI k))] → W p l e rmX4_middle s m [.ref (b 0), .int (nI N)].toArray below meth c H locs 0 0 Q (F0 m 2 ls []) := by
    intro fu
    induction fu with
    | zero => intro k v H locs ls hms hk1 hk hI hP hS hl; exact absurd hms (Nat.not_lt_zero _)
    | succ fu ih_1 =>
      intro k v H locs ls hms hk1 hk hI hP hS hl
      have hD : va_D A (mW G b mi (va_up ma 4 v)) := hD.same rfl
      refine lv_iload_n hx hb dX4_middle_2 rfl (lv_at hl 2 rfl) ?_
      refine lv_iload_n hx hb dX4_middle_3 rfl (lv_at hl 1 rfl) ?_
      refine x_icmp_ge (tgt := 71) hx hb (by omega) (by omega) dX4_middle_4 (by decide) (fun c_2 => ?_) (fun c_2 => ?_)
      · refine lv_aload_n hx hb dX4_middle_71 rfl (lv_at hl 0 rfl) ?_
        refine x_get (T := TX4) (N := 11) (v := .ref (b 5)) hx hb hts in_X4 hown hK (hP 0 _ rfl) rfl 10 (by decide) k_f22 (fun _ h9 => h9) (rfl) dX4_middle_72 ?_
        refine lv_iload_n hx hb dX4_middle_75 rfl (lv_at hl 1 rfl) ?_
        refine lv_iconst (v := nI 1) hx hb dX4_middle_76 (by decide +kernel) ?_
        refine x_isubN hx hb dX4_middle_77 (by omega) ?_
        refine lv_iconst (v := nI 2) hx hb dX4_middle_78 (by decide +kernel) ?_
        refine x_idivN hx hb dX4_middle_79 (by omega) (by omega) (by omega) ?_
        refine x_ialdN hx hb hK (hP 5 _ rfl) (by omega) (by decide) dX4_middle_80 ?_
        exact x_iret hQ hx hb hr rfl hlk hS.2.2 dX4_middle_81 (⟨hS.fr, insI_mid hI (by omega) (by omega), v, hP⟩)
      · refine lv_aload_n hx hb dX4_middle_7 rfl (lv_at hl 0 rfl) ?_
        refine x_get (T := TX4) (N := 11) (v := .ref (b 5)) hx hb hts in_X4 hown hK (hP 0 _ rfl) rfl 10 (by decide) k_f22 (fun _ h9 => h9) (rfl) dX4_middle_8 ?_
        refine lv_iload_n hx hb dX4_middle_11 rfl (lv_at hl 2 rfl) ?_
        refine x_ialdN hx hb hK (hP 5 _ rfl) (by omega) (by decide) dX4_middle_12 ?_
        refine lv_istore_n (lv' := [(3, .int (v k)), (0, .ref (b 0)), (1, .int (nI N)), (2, .int (nI k))]) hx hb dX4_middle_13 rfl hl (by decide) rfl (fun ls hl => ?_)
        refine lv_iload_n hx hb dX4_middle_14 rfl (lv_at hl 3 rfl) ?_
        refine lv_istore (lv' := [(4, .int (nI k)), (3, .int (v k)), (0, .ref (b 0)), (1, .int (nI N)), (2, .int (nI k))]) hx hb dX4_middle_15 hl (by decide) rfl (fun ls hl => ?_)
        have hP : mP G b mi (va_up ma 4 (shf v k k)) H := by rw [shf_self]; exact hP
        have hD : va_D A (mW G b mi (va_up ma 4 (shf v k k))) := hD.same rfl
        have loop_3 : ∀ (fu : Nat) (t : Nat) (H : Heap) (locs : List Loc) (ls : Array Slot), t < fu → (t ≤ k) → (∀ j, t ≤ j → j < k → v k < v j) → (va_P (gD G) vC (mW G b mi (va_up ma 4 (shf v t k))) H) → (va_S A H0 H locs) → lv_has ls 5 [(0, .ref (b 0)), (1, .int (nI N)), (2, .int (nI k)), (3, .int (v k)), (4, .int (nI t))] → W p l e rmX4_middle s m [.ref (b 0), .int (nI N)].toArray below meth c H locs 0 0 Q (F0 m 17 ls []) := by
          intro fu
          induction fu with
          | zero => intro t H locs ls hms ht hy hP hS hl; exact absurd hms (Nat.not_lt_zero _)
          | succ fu ih_3 =>
            intro t H locs ls hms ht hy hP hS hl
            have hD : va_D A (mW G b mi (va_up ma 4 (shf v t k))) := hD.same rfl
            refine lv_iload hx hb dX4_middle_17 (lv_at hl 4 rfl) ?_
            refine x_if_leN (tgt := 57) hx hb (by omega) dX4_middle_19 (by decide) (fun c_4 => ?_) (fun c_4 => ?_)
            · refine lv_aload_n hx hb dX4_middle_57 rfl (lv_at hl 0 rfl) ?_
              refine x_get (T := TX4) (N := 11) (v := .ref (b 5)) hx hb hts in_X4 hown hK (hP 0 _ rfl) rfl 10 (by decide) k_f22 (fun _ h9 => h9) (rfl) dX4_middle_58 ?_
              refine lv_iload hx hb dX4_middle_61 (lv_at hl 4 rfl) ?_
              refine lv_iload_n hx hb dX4_middle_63 rfl (lv_at hl 3 rfl) ?_
              refine x_iast hx hb hK hP hD hS 5 rfl (by omega) (by decide) dX4_middle_64 (fun H locs hP hD hS => ?_)
              have hP : mP G b mi (va_up ma 4 (upd (shf v t k) t (v k))) H := hP
              have hD : va_D A (mW G b mi (va_up ma 4 (upd (shf v t k) t (v k)))) := hD
              refine lv_iinc (v := nI (k + 1)) (lv' := [(2, .int (nI (k + 1))), (0, .ref (b 0)), (1, .int (nI N)), (3, .int (v k)), (4, .int (nI t))]) hx hb dX4_middle_65 hl (k := 2) rfl (nI_incn _) (by decide) rfl (fun ls hl => ?_)
              refine lv_goto (tgt := 2) hx hb dX4_middle_68 (by decide) ?_
              exact ih_1 (k + 1) (upd (shf v t k) t (v k)) _ _ ls (by omega) (by omega) (by omega) (ins_step hI (by omega) ht (Or.inl c_4) hy) (hP) (hS) (lv_sub hl [1, 2, 0] rfl)
            · refine lv_aload_n hx hb dX4_middle_22 rfl (lv_at hl 0 rfl) ?_
              refine x_get (T := TX4) (N := 11) (v := .ref (b 5)) hx hb hts in_X4 hown hK (hP 0 _ rfl) rfl 10 (by decide) k_f22 (fun _ h9 => h9) (rfl) dX4_middle_23 ?_
              refine lv_iload hx hb dX4_middle_26 (lv_at hl 4 rfl) ?_
              refine lv_iconst (v := nI 1) hx hb dX4_middle_28 (by decide +kernel) ?_
              refine x_isubN hx hb dX4_middle_29 (by omega) ?_
              refine x_ialdN hx hb hK (hP 5 _ rfl) (by omega) (by decide) dX4_middle_30 ?_
              refine W.eq (g2 := F0 m 31 ls [.int (v (t - 1))]) (congrArg (fun z => F0 m 31 ls (.int z :: [])) (shf_lt v (by omega))) ?_
              refine lv_iload_n hx hb dX4_middle_31 rfl (lv_at hl 3 rfl) ?_
              refine lv_icmp_le (tgt := 57) hx hb dX4_middle_32 (by decide) (fun c_5 => ?_) (fun c_5 => ?_)
              · refine lv_aload_n hx hb dX4_middle_57 rfl (lv_at hl 0 rfl) ?_
                refine x_get (T := TX4) (N := 11) (v := .ref (b 5)) hx hb hts in_X4 hown hK (hP 0 _ rfl) rfl 10 (by decide) k_f22 (fun _ h9 => h9) (rfl) dX4_middle_58 ?_
                refine lv_iload hx hb dX4_middle_61 (lv_at hl 4 rfl) ?_
                refine lv_iload_n hx hb dX4_middle_63 rfl (lv_at hl 3 rfl) ?_
                refine x_iast hx hb hK hP hD hS 5 rfl (by omega) (by decide) dX4_middle_64 (fun H locs hP hD hS => ?_)
                have hP : mP G b mi (va_up ma 4 (upd (shf v t k) t (v k))) H := hP
                have hD : va_D A (mW G b mi (va_up ma 4 (upd (shf v t k) t (v k)))) := hD
                refine lv_iinc (v := nI (k + 1)) (lv' := [(2, .int (nI (k + 1))), (0, .ref (b 0)), (1, .int (nI N)), (3, .int (v k)), (4, .int (nI t))]) hx hb dX4_middle_65 hl (k := 2) rfl (nI_incn _) (by decide) rfl (fun ls hl => ?_)
                refine lv_goto (tgt := 2) hx hb dX4_middle_68 (by decide) ?_
                exact ih_1 (k + 1) (upd (shf v t k) t (v k)) _ _ ls (by omega) (by omega) (by omega) (ins_step hI (by omega) ht (Or.inr c_5) hy) (hP) (hS) (lv_sub hl [1, 2, 0] rfl)
              · refine lv_aload_n hx hb dX4_middle_35 rfl (lv_at hl 0 rfl) ?_
                refine x_get (T := TX4) (N := 11) (v := .ref (b 5)) hx hb hts in_X4 hown hK (hP 0 _ rfl) rfl 10 (by decide) k_f22 (fun _ h9 => h9) (rfl) dX4_middle_36 ?_
                refine lv_iload hx hb dX4_middle_39 (lv_at hl 4 rfl) ?_
                refine lv_aload_n hx hb dX4_middle_41 rfl (lv_at hl 0 rfl) ?_
                refine x_get (T := TX4) (N := 11) (v := .ref (b 5)) hx hb hts in_X4 hown hK (hP 0 _ rfl) rfl 10 (by decide) k_f22 (fun _ h9 => h9) (rfl) dX4_middle_42 ?_
                refine lv_iload hx hb dX4_middle_45 (lv_at hl 4 rfl) ?_
                refine lv_iconst (v := nI 1) hx hb dX4_middle_47 (by decide +kernel) ?_
                refine x_isubN hx hb dX4_middle_48 (by omega) ?_
                refine x_ialdN hx hb hK (hP 5 _ rfl) (by omega) (by decide) dX4_middle_49 ?_
                refine W.eq (g2 := F0 m 50 ls [.int (v (t - 1)), .int (nI t), .ref (b 5)]) (congrArg (fun z => F0 m 50 ls (.int z :: [.int (nI t), .ref (b 5)])) (shf_lt v (by omega))) ?_
                refine x_iast hx hb hK hP hD hS 5 rfl (by omega) (by decide) dX4_middle_50 (fun H locs hP hD hS => ?_)
                have hP : mP G b mi (va_up ma 4 (upd (shf v t k) t (v (t - 1)))) H := hP
                have hD : va_D A (mW G b mi (va_up ma 4 (upd (shf v t k) t (v (t - 1))))) := hD
                have hP : mP G b mi (va_up ma 4 (shf v (t - 1) k)) H := by rw [← shf_step v (by omega) ht]; exact hP
                have hD : va_D A (mW G b mi (va_up ma 4 (shf v (t - 1) k))) := hD.same rfl
                refine lv_iinc (v := nI (t - 1)) (lv' := [(4, .int (nI (t - 1))), (0, .ref (b 0)), (1, .int (nI N)), (2, .int (nI k)), (3, .int (v k))]) hx hb dX4_middle_51 hl (k := 4) rfl (nI_dec (by omega)) (by decide) rfl (fun ls hl => ?_)
                refine lv_goto (tgt := 17) hx hb dX4_middle_54 (by decide) ?_
                exact ih_3 (t - 1) _ _ ls (by omega) (by omega) (shf_hy hy c_4 (Int32.not_le.mp c_5)) (hP) (hS) (lv_sub hl [1, 2, 3, 4, 0] rfl)
        exact loop_3 _ k _ _ ls (Nat.lt_succ_self _) (Nat.le_refl k) (fun j h1 h2 => by omega) (hP) (hS) (lv_sub hl [2, 3, 4, 1, 0] rfl)
  exact loop_1 _ 1 (ma 4) _ _ ls (Nat.lt_succ_self _) (Nat.le_refl 1) (hN) (insI_0 _ _) (hP) (hS) (lv_sub hl [1, 2, 0] rfl)
abbrev rmX4_steady : Room := { frames := 1, cells := 0, slots := 0, locals := 19 }
theorem qdX4_steady : yX4_steady.cls = RX4 ∧ yX4_steady.cls ≠ "java/lang/invoke/MethodHandle" ∧ yX4_steady.cls ≠ "java/lang/invoke/VarHandle" ∧ (parseMethodDescriptor yX4_steady.desc).map (fun d => d.parameters.length) = some 1 := by decide +kernel
set_option maxHeartbeats 4000000 in
set_option maxRecDepth 100000 in
theorem c_X4_steady {l : Launch} {G : gT} {A : Nat → Prop} {b : Nat → Nat} {mi : Nat → Int32} {ma : Nat → Nat → Int32} {H0 : Heap} {M : Nat} {sg : Int32} (hP : mP G b mi ma H0) (hD : va_D A (mW G b mi ma)) (hM : mi 3 = nI M) (hM12 : M ≤ 12) : WrI G l yX4_steady wsX4_steady rmX4_steady [.ref (b 0), .int sg] H0 A (fun r H1 => r = nI (lrun (gc sg (ma 3)) M) ∧ ∃ v, mP G b mi (va_up ma 4 v) H1) := by
  refine x_head (bytes := cX4_steady) (maxL := 5) (ret := (some .int)) (by decide) rfl (Nat.le_of_ble_eq_true rfl) ?_
  intro p e s m below meth c ls hx hb hml hown hts hr hlk hnm hK hs0 hl Q hQ
  have hl : lv_has ls 5 [(0, .ref (b 0)), (1, .int sg)] := hl
  have hC : CallFix p m c cX4_steady 5 s [.ref (b 0), .int sg].toArray wsX4_steady RX4 := ⟨hx, hb, hml, hown, hts⟩
  have k_f103 := hts (.fieldLink RX4 103 "SundogLineModel" "many" "I") (by decide +kernel)
  have in_X4 : ∀ w ∈ u_ws RX4 TX4 11, w ∈ wsX4_steady := by decide +kernel
  have k_f22 := hts (.fieldLink RX4 22 "SundogLineModel" "values" "[I") (by decide +kernel)
  have k_m121 := hts (.methodLink RX4 121 Lib.Math.max.name) (by decide +kernel)
  have k_msmax := hts (.static Lib.Math.max.name) (by decide +kernel)
  have k_mi := hts (.initialized "java/lang/Math") (by decide +kernel)
  have k_mcmax := hts (.code Lib.Math.max.name Lib.Math.max.code 2 (some .int)) (by decide +kernel)
  have k_f19 := hts (.fieldLink RX4 19 "SundogLineModel" "readings" "[I") (by decide +kernel)
  have hS : va_S A H0 H0 [] := va_S.rf
  refine lv_iconst (v := nI 0) hx hb dX4_steady_0 (by decide +kernel) ?_
  refine lv_istore_n (lv' := [(2, .int (nI 0)), (0, .ref (b 0)), (1, .int sg)]) hx hb dX4_steady_1 rfl hl (by decide) rfl (fun ls hl => ?_)
  refine lv_iconst (v := nI 0) hx hb dX4_steady_2 (by decide +kernel) ?_
  refine lv_istore_n (lv' := [(3, .int (nI 0)), (2, .int (nI 0)), (0, .ref (b 0)), (1, .int sg)]) hx hb dX4_steady_3 rfl hl (by decide) rfl (fun ls hl => ?_)
  have hP : mP G b mi (va_up ma 4 (ma 4)) H0 := hP
  have hD : va_D A (mW G b mi (va_up ma 4 (ma 4))) := hD.same rfl
  have loop_1 : ∀ (fu : Nat) (k : Nat) (v : Nat → Int32) (H : Heap) (locs : List Loc) (ls : Array Slot), M - k < fu → (k ≤ M) → (∀ x, x < k → v x = nI (wf (gc sg (ma 3)) x)) → (va_P (gD G) vC (mW G b mi (va_up ma 4 v)) H) → (va_S A H0 H locs) → lv_has ls 5 [(0, .ref (b 0)), (1, .int sg), (2, .int (nI (lrun (gc sg (ma 3)) k))), (3, .int (nI k))] → W p l e rmX4_steady s m [.ref (b 0), .int sg].toArray below meth c H locs 0 0 Q (F0 m 4 ls []) := by
    intro fu
    induction fu with
    | zero => intro k v H locs ls hms hk hv hP hS hl; exact absurd hms (Nat.not_lt_zero _)
    | succ fu ih_1 =>
      intro k v H locs ls hms hk hv hP hS hl
      have hD : va_D A (mW G b mi (va_up ma 4 v)) := hD.same rfl
      refine lv_iload_n hx hb dX4_steady_4 rfl (lv_at hl 3 rfl) ?_
      refine lv_aload_n hx hb dX4_steady_5 rfl (lv_at hl 0 rfl) ?_
      refine x_get (T := TX4) (N := 11) (v := .int (nI M)) hx hb hts in_X4 hown hK (hP 0 _ rfl) rfl 7 (by decide) k_f103 (fun _ h9 => h9) (congrArg (fun z => some (Value.int z)) hM) dX4_steady_6 ?_
      refine x_icmp_ge (tgt := 95) hx hb (by omega) (by omega) dX4_steady_9 (by decide) (fun c_2 => ?_) (fun c_2 => ?_)
      · refine lv_iload_n hx hb dX4_steady_95 rfl (lv_at hl 2 rfl) ?_
        exact x_iret hQ hx hb hr rfl hlk hS.2.2 dX4_steady_96 (⟨hS.fr, by rw [show M = k by omega], v, hP⟩)
      · refine lv_aload_n hx hb dX4_steady_12 rfl (lv_at hl 0 rfl) ?_
        refine x_get (T := TX4) (N := 11) (v := .ref (b 5)) hx hb hts in_X4 hown hK (hP 0 _ rfl) rfl 10 (by decide) k_f22 (fun _ h9 => h9) (rfl) dX4_steady_13 ?_
        refine lv_iload_n hx hb dX4_steady_16 rfl (lv_at hl 3 rfl) ?_
        refine lv_iconst (v := nI 1) hx hb dX4_steady_17 (by decide +kernel) ?_
        refine x_iast hx hb hK hP hD hS 5 rfl (by omega) (by decide) dX4_steady_18 (fun H locs hP hD hS => ?_)
        have hP : mP G b mi (va_up ma 4 (upd v k (nI 1))) H := hP
        have hD : va_D A (mW G b mi (va_up ma 4 (upd v k (nI 1)))) := hD
        refine lv_iconst (v := nI 0) hx hb dX4_steady_19 (by decide +kernel) ?_
        refine lv_istore (lv' := [(4, .int (nI 0)), (0, .ref (b 0)), (1, .int sg), (2, .int (nI (lrun (gc sg (ma 3)) k))), (3, .int (nI k))]) hx hb dX4_steady_20 hl (by decide) rfl (fun ls hl => ?_)
        have loop_3 : ∀ (fu : Nat) (i : Nat) (H : Heap) (locs : List Loc) (ls : Array Slot), k - i < fu → (i ≤ k) → (va_P (gD G) vC (mW G b mi (va_up ma 4 (upd v k (nI (inn (gc sg (ma 3)) k i))))) H) → (va_S A H0 H locs) → lv_has ls 5 [(0, .ref (b 0)), (1, .int sg), (2, .int (nI (lrun (gc sg (ma 3)) k))), (3, .int (nI k)), (4, .int (nI i))] → W p l e rmX4_steady s m [.ref (b 0), .int sg].toArray below meth c H locs 0 0 Q (F0 m 22 ls []) := by
          intro fu
          induction fu with
          | zero => intro i H locs ls hms hi hP hS hl; exact absurd hms (Nat.not_lt_zero _)
          | succ fu ih_3 =>
            intro i H locs ls hms hi hP hS hl
            have hD : va_D A (mW G b mi (va_up ma 4 (upd v k (nI (inn (gc sg (ma 3)) k i))))) := hD.same rfl
            refine lv_iload hx hb dX4_steady_22 (lv_at hl 4 rfl) ?_
            refine lv_iload_n hx hb dX4_steady_24 rfl (lv_at hl 3 rfl) ?_
            refine x_icmp_ge (tgt := 78) hx hb (by omega) (by omega) dX4_steady_25 (by decide) (fun c_4 => ?_) (fun c_4 => ?_)
            · refine lv_iload_n hx hb dX4_steady_78 rfl (lv_at hl 2 rfl) ?_
              refine lv_aload_n hx hb dX4_steady_79 rfl (lv_at hl 0 rfl) ?_
              refine x_get (T := TX4) (N := 11) (v := .ref (b 5)) hx hb hts in_X4 hown hK (hP 0 _ rfl) rfl 10 (by decide) k_f22 (fun _ h9 => h9) (rfl) dX4_steady_80 ?_
              refine lv_iload_n hx hb dX4_steady_83 rfl (lv_at hl 3 rfl) ?_
              refine x_ialdN hx hb hK (hP 5 _ rfl) (by omega) (by decide) dX4_steady_84 ?_
              refine W.eq (g2 := F0 m 85 ls [.int (nI (wf (gc sg (ma 3)) k)), .int (nI (lrun (gc sg (ma 3)) k))]) (congrArg (fun z => F0 m 85 ls (.int z :: [.int (nI (lrun (gc sg (ma 3)) k))])) (pk_us.trans (congrArg nI (by rw [wf_eq, show i = k by omega])))) ?_
              refine va_mmax hx hb (hml.trans hl.1.symm) hown k_m121 k_msmax k_mi k_mcmax (by decide) (Nat.le_of_ble_eq_true rfl) (Nat.zero_le _) (Nat.zero_le _) dX4_steady_85 ?_
              refine W.eq (g2 := F0 m 88 ls [.int (mx (nI (lrun (gc sg (ma 3)) k)) (nI (wf (gc sg (ma 3)) k)))]) rfl ?_
              refine W.eq (g2 := F0 m 88 ls [.int (nI (lrun (gc sg (ma 3)) (k + 1)))]) (congrArg (fun z => F0 m 88 ls (.int z :: [])) (mx_nat (by have := lrun_le (gc sg (ma 3)) k; omega) (by have := wf_le (gc sg (ma 3)) k; omega))) ?_
              refine lv_istore_n (lv' := [(2, .int (nI (lrun (gc sg (ma 3)) (k + 1)))), (0, .ref (b 0)), (1, .int sg), (3, .int (nI k)), (4, .int (nI i))]) hx hb dX4_steady_88 rfl hl (by decide) rfl (fun ls hl => ?_)
              refine lv_iinc (v := nI (k + 1)) (lv' := [(3, .int (nI (k + 1))), (2, .int (nI (lrun (gc sg (ma 3)) (k + 1)))), (0, .ref (b 0)), (1, .int sg), (4, .int (nI i))]) hx hb dX4_steady_89 hl (k := 3) rfl (nI_incn _) (by decide) rfl (fun ls hl => ?_)
              refine lv_goto (tgt := 4) hx hb dX4_steady_92 (by decide) ?_
              exact ih_1 (k + 1) (upd v k (nI (inn (gc sg (ma 3)) k i))) _ _ ls (by omega) (by omega) (upd_all hv (by rw [wf_eq, show i = k by omega])) (hP) (hS) (lv_sub hl [2, 3, 1, 0] rfl)
            · refine lv_iload_n hx hb dX4_steady_28 rfl (lv_at hl 1 rfl) ?_
              refine lv_aload_n hx hb dX4_steady_29 rfl (lv_at hl 0 rfl) ?_
              refine x_get (T := TX4) (N := 11) (v := .ref (b 4)) hx hb hts in_X4 hown hK (hP 0 _ rfl) rfl 6 (by decide) k_f19 (fun _ h9 => h9) (rfl) dX4_steady_30 ?_
              refine lv_iload hx hb dX4_steady_33 (lv_at hl 4 rfl) ?_
              refine x_ialdN hx hb hK (hP 4 _ rfl) (by omega) (by decide) dX4_steady_35 ?_
              refine lv_imul hx hb dX4_steady_36 ?_
              refine lv_iload_n hx hb dX4_steady_37 rfl (lv_at hl 1 rfl) ?_
              refine lv_aload_n hx hb dX4_steady_38 rfl (lv_at hl 0 rfl) ?_
              refine x_get (T := TX4) (N := 11) (v := .ref (b 4)) hx hb hts in_X4 hown hK (hP 0 _ rfl) rfl 6 (by decide) k_f19 (fun _ h9 => h9) (rfl) dX4_steady_39 ?_
              refine lv_iload_n hx hb dX4_steady_42 rfl (lv_at hl 3 rfl) ?_
              refine x_ialdN hx hb hK (hP 4 _ rfl) (by omega) (by decide) dX4_steady_43 ?_
              refine lv_imul hx hb dX4_steady_44 ?_
              refine lv_icmp_gt (tgt := 72) hx hb dX4_steady_45 (by decide) (fun c_5 => ?_) (fun c_5 => ?_)
              · have hP : mP G b mi (va_up ma 4 (upd v k (nI (inn (gc sg (ma 3)) k (i + 1))))) H := by rw [show inn (gc sg (ma 3)) k (i + 1) = inn (gc sg (ma 3)) k i from if_neg (by simp only [gc, decide_eq_true_eq]; exact Int32.not_le.mpr c_5)]; exact hP
                have hD : va_D A (mW G b mi (va_up ma 4 (upd v k (nI (inn (gc sg (ma 3)) k (i + 1)))))) := hD.same rfl
                refine lv_iinc (v := nI (i + 1)) (lv' := [(4, .int (nI (i + 1))), (0, .ref (b 0)), (1, .int sg), (2, .int (nI (lrun (gc sg (ma 3)) k))), (3, .int (nI k))]) hx hb dX4_steady_72 hl (k := 4) rfl (nI_incn _) (by decide) rfl (fun ls hl => ?_)
                refine lv_goto (tgt := 22) hx hb dX4_steady_75 (by decide) ?_
                exact ih_3 (i + 1) _ _ ls (by omega) (by omega) (hP) (hS) (lv_sub hl [1, 2, 3, 4, 0] rfl)
              · refine lv_aload_n hx hb dX4_steady_48 rfl (lv_at hl 0 rfl) ?_
                refine x_get (T := TX4) (N := 11) (v := .ref (b 5)) hx hb hts in_X4 hown hK (hP 0 _ rfl) rfl 10 (by decide) k_f22 (fun _ h9 => h9) (rfl) dX4_steady_49 ?_
                refine lv_iload_n hx hb dX4_steady_52 rfl (lv_at hl 3 rfl) ?_
                refine lv_aload_n hx hb dX4_steady_53 rfl (lv_at hl 0 rfl) ?_
                refine x_get (T := TX4) (N := 11) (v := .ref (b 5)) hx hb hts in_X4 hown hK (hP 0 _ rfl) rfl 10 (by decide) k_f22 (fun _ h9 => h9) (rfl) dX4_steady_54 ?_
                refine lv_iload_n hx hb dX4_steady_57 rfl (lv_at hl 3 rfl) ?_
                refine x_ialdN hx hb hK (hP 5 _ rfl) (by omega) (by decide) dX4_steady_58 ?_
                refine W.eq (g2 := F0 m 59 ls [.int (nI (inn (gc sg (ma 3)) k i)), .int (nI k), .ref (b 5)]) (congrArg (fun z => F0 m 59 ls (.int z :: [.int (nI k), .ref (b 5)])) (pk_us)) ?_
                refine lv_aload_n hx hb dX4_steady_59 rfl (lv_at hl 0 rfl) ?_
                refine x_get (T := TX4) (N := 11) (v := .ref (b 5)) hx hb hts in_X4 hown hK (hP 0 _ rfl) rfl 10 (by decide) k_f22 (fun _ h9 => h9) (rfl) dX4_steady_60 ?_
                refine lv_iload hx hb dX4_steady_63 (lv_at hl 4 rfl) ?_
                refine x_ialdN hx hb hK (hP 5 _ rfl) (by omega) (by decide) dX4_steady_65 ?_
                refine W.eq (g2 := F0 m 66 ls [.int (nI (wf (gc sg (ma 3)) i)), .int (nI (inn (gc sg (ma 3)) k i)), .int (nI k), .ref (b 5)]) (congrArg (fun z => F0 m 66 ls (.int z :: [.int (nI (inn (gc sg (ma 3)) k i)), .int (nI k), .ref (b 5)])) ((pk_un (by omega)).trans (hv i (by omega)))) ?_
                refine lv_iconst (v := nI 1) hx hb dX4_steady_66 (by decide +kernel) ?_
                refine x_iaddN hx hb dX4_steady_67 ?_
                refine va_mmax hx hb (hml.trans hl.1.symm) hown k_m121 k_msmax k_mi k_mcmax (by decide) (Nat.le_of_ble_eq_true rfl) (Nat.zero_le _) (Nat.zero_le _) dX4_steady_68 ?_
                refine W.eq (g2 := F0 m 71 ls [.int (mx (nI (inn (gc sg (ma 3)) k i)) (nI ((wf (gc sg (ma 3)) i) + 1))), .int (nI k), .ref (b 5)]) rfl ?_
                refine W.eq (g2 := F0 m 71 ls [.int (nI (max (inn (gc sg (ma 3)) k i) (wf (gc sg (ma 3)) i + 1))), .int (nI k), .ref (b 5)]) (congrArg (fun z => F0 m 71 ls (.int z :: [.int (nI k), .ref (b 5)])) (mx_nat (by have := inn_le (gc sg (ma 3)) k i (by omega); omega) (by have := wf_le (gc sg (ma 3)) i; omega))) ?_
                refine x_iast hx hb hK hP hD hS 5 rfl (by omega) (by decide) dX4_steady_71 (fun H locs hP hD hS => ?_)
                have hP : mP G b mi (va_up ma 4 (upd (upd v k (nI (inn (gc sg (ma 3)) k i))) k (nI (max (inn (gc sg (ma 3)) k i) (wf (gc sg (ma 3)) i + 1))))) H := hP
                have hD : va_D A (mW G b mi (va_up ma 4 (upd (upd v k (nI (inn (gc sg (ma 3)) k i))) k (nI (max (inn (gc sg (ma 3)) k i) (wf (gc sg (ma 3)) i + 1)))))) := hD
                have hP : mP G b mi (va_up ma 4 (upd v k (nI (inn (gc sg (ma 3)) k (i + 1))))) H := by rw [show inn (gc sg (ma 3)) k (i + 1) = max (inn (gc sg (ma 3)) k i) (wf (gc sg (ma 3)) i + 1) from if_pos (by simp only [gc, decide_eq_true_eq]; exact Int32.not_lt.mp c_5), ← upd_upd v k (nI (inn (gc sg (ma 3)) k i))]; exact hP
                have hD : va_D A (mW G b mi (va_up ma 4 (upd v k (nI (inn (gc sg (ma 3)) k (i + 1)))))) := hD.same rfl
                refine lv_iinc (v := nI (i + 1)) (lv' := [(4, .int (nI (i + 1))), (0, .ref (b 0)), (1, .int sg), (2, .int (nI (lrun (gc sg (ma 3)) k))), (3, .int (nI k))]) hx hb dX4_steady_72 hl (k := 4) rfl (nI_incn _) (by decide) rfl (fun ls hl => ?_)
                refine lv_goto (tgt := 22) hx hb dX4_steady_75 (by decide) ?_
                exact ih_3 (i + 1) _ _ ls (by omega) (by omega) (hP) (hS) (lv_sub hl [1, 2, 3, 4, 0] rfl)
        exact loop_3 _ 0 _ _ ls (Nat.lt_succ_self _) (Nat.zero_le _) (hP) (hS) (lv_sub hl [1, 2, 3, 4, 0] rfl)
  exact loop_1 _ 0 (ma 4) _ _ ls (Nat.lt_succ_self _) (Nat.zero_le _) (fun x hx => absurd hx (Nat.not_lt_zero _)) (hP) (hS) (lv_sub hl [2, 3, 1, 0] rfl)
