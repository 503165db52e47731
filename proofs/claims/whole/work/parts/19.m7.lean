/-- is o ahead of s in the order of halo h -/
def ahB (L T : Nat → Int32) (h s o : Nat) : Bool := see L T h o && (decide (rdg L T h o < rdg L T h s) || (decide (rdg L T h o = rdg L T h s) && decide (o < s)))
def findI (f : Nat → Bool) : Nat → Option Nat
  | 0 => none
  | k + 1 => match findI f k with
    | some j => some j
    | none => if f k = true then some k else none
theorem findI_up {f : Nat → Bool} {k : Nat} (h0 : findI f k = none) (h1 : f k = true) : ∀ n, k < n → findI f n = some k := by
  intro n
  induction n with
  | zero => intro h; omega
  | succ n ih =>
    intro h
    rcases Nat.lt_or_ge k n with e | e
    · simp only [findI, ih e]
    · have e2 : k = n := by omega
      rw [← e2]
      simp only [findI, h0]
      rw [if_pos h1]
theorem findI_no {f : Nat → Bool} {k : Nat} (h0 : findI f k = none) (h1 : f k = false) : findI f (k + 1) = none := by
  simp only [findI, h0]
  rw [if_neg (by rw [h1]; decide)]
/-- does s see h, and is its place in the order x -/
def orB (n : Nat) (L T : Nat → Int32) (h : Nat) (x : Int32) (s : Nat) : Bool := see L T h s && decide (nI (cnt (ahB L T h s) n) = x)
abbrev rmX4_order : Room := { frames := 4, cells := 0, slots := 0, locals := 92 }
theorem qdX4_order : yX4_order.cls = RX4 ∧ yX4_order.cls ≠ "java/lang/invoke/MethodHandle" ∧ yX4_order.cls ≠ "java/lang/invoke/VarHandle" ∧ (parseMethodDescriptor yX4_order.desc).map (fun d => d.parameters.length) = some 2 := by decide +kernel
set_option maxHeartbeats 4000000 in
set_option maxRecDepth 100000 in
theorem c_X4_order {l : Launch} {G : gT} {A : Nat → Prop} {b : Nat → Nat} {mi : Nat → Int32} {ma : Nat → Nat → Int32} {H0 : Heap} {n hn : Nat} {x1 x2 : Int32} (hP : mP G b mi ma H0) (hD : va_D A (mW G b mi ma)) (hmn : mi 1 = nI n) (hmh : mi 2 = nI hn) (hg : OK n hn (ma 0) (ma 1)) : WrI G l yX4_order wsX4_order rmX4_order [.ref (b 0), .int x1, .int x2] H0 A (fun r H1 => mQ G b n hn (ma 0) (ma 1) (k1 (vS hn x1 && !decide (x2 < 0))) (onI (findI (orB n (ma 0) (ma 1) x1.toNatClampNeg x2) n)) r H1) := by
  refine x_head (bytes := cX4_order) (maxL := 6) (ret := (some .int)) (by decide) rfl (Nat.le_of_ble_eq_true rfl) ?_
  intro p e s m below meth c ls hx hb hml hown hts hr hlk hnm hK hs0 hl Q hQ
  have hl : lv_has ls 6 [(0, .ref (b 0)), (1, .int x1), (2, .int x2)] := hl
  have hC : CallFix p m c cX4_order 6 s [.ref (b 0), .int x1, .int x2].toArray wsX4_order RX4 := ⟨hx, hb, hml, hown, hts⟩
  have k_f25 := hts (.fieldLink RX4 25 "SundogLineModel" "thrown" "I") (by decide +kernel)
  have in_X4 : ∀ w ∈ u_ws RX4 TX4 11, w ∈ wsX4_order := by decide +kernel
  have k_f34 := hts (.fieldLink RX4 34 "SundogLineModel" "stations" "I") (by decide +kernel)
  have hS : va_S A H0 H0 [] := va_S.rf
  have hn12 := hg.n
  have hh16 := hg.hn
  refine lv_aload_n hx hb dX4_order_0 rfl (lv_at hl 0 rfl) ?_
  refine lv_iconst (v := nI 0) hx hb dX4_order_1 (by decide +kernel) ?_
  refine va_put (D := gD G) (ci := 4) (v := .int (nI 0)) (ty := .int) (C := RX4) (T := TX4) (N := 11) hx hb hts in_X4 tyX4 tyX4_ok nmX4 hown hK hP hD hS 0 rfl rfl 0 (by decide) k_f25 (fun _ h9 => h9) rfl (by decide +kernel) rfl rfl (Nat.le_of_ble_eq_true rfl) dX4_order_2 (fun H locs hP hD hS => ?_)
  have hP : mP G b (va_up mi 0 (nI 0)) ma H := hP
  have hD : va_D A (mW G b (va_up mi 0 (nI 0)) ma) := hD
  refine lv_aload_n hx hb dX4_order_5 rfl (lv_at hl 0 rfl) ?_
  refine lv_iload_n hx hb dX4_order_6 rfl (lv_at hl 1 rfl) ?_
  refine x_rd (va_runV (As := [.int x1]) (rest := []) hC (c_X4_isHalo hP hmh) (cwV 1 hts gX4_order_X4_isHalo rfl rfl rfl qdX4_isHalo ⟨Nat.le_of_ble_eq_true rfl, Nat.le_of_ble_eq_true rfl⟩) (x_preV hK (x_recv hK (hP 0 _ rfl) rfl)) rfl rfl hl.1 rfl (lv_room (Nat.le_of_ble_eq_true rfl)) dX4_order_7 ⟨Nat.le_of_ble_eq_true rfl, Nat.le_of_ble_eq_true rfl⟩) ?_
  refine W.eq (g2 := F0 m 10 ls [.int (bI (vS hn x1))]) rfl ?_
  refine x_if_eqB (tgt := 17) hx hb dX4_order_10 (by decide) (fun c_1 => ?_) (fun c_1 => ?_)
  · refine lv_aload_n hx hb dX4_order_17 rfl (lv_at hl 0 rfl) ?_
    refine lv_iconst (v := nI 1) hx hb dX4_order_18 (by decide +kernel) ?_
    refine x_runi (va_runV (As := [.int (nI 1)]) (rest := []) hC (c_X4_fail hP hD) (cwV 1 hts gX4_order_X4_fail rfl rfl rfl qdX4_fail ⟨Nat.le_of_ble_eq_true rfl, Nat.le_of_ble_eq_true rfl⟩) (x_preV hK (x_recv hK (hP 0 _ rfl) rfl)) rfl rfl hl.1 rfl (lv_room (Nat.le_of_ble_eq_true rfl)) dX4_order_19 ⟨Nat.le_of_ble_eq_true rfl, Nat.le_of_ble_eq_true rfl⟩) hS (fun _ h => h) (fun r_2 H locs hfr hΦ hS => ?_)
    obtain ⟨er_2, hP⟩ := hΦ
    rw [er_2]
    have hP : mP G b (va_up mi 0 (nI 1)) ma H := hP
    have hD : va_D A (mW G b (va_up mi 0 (nI 1)) ma) := hD.same rfl
    have hkk9 : k1 (vS hn x1 && !decide (x2 < 0)) = 1 := by simp only [k1, Bool.and_true, Bool.true_and, Bool.and_false, Bool.false_and, Bool.not_true, Bool.not_false, c_1] <;> rfl
    have hkn9 : ¬ k1 (vS hn x1 && !decide (x2 < 0)) = 0 := by rw [hkk9]; decide
    exact x_iret hQ hx hb hr rfl hlk hS.2.2 dX4_order_22 ⟨hS.fr, mQ_mk (k0 := 1) hkk9 hP rfl (hmn) (hmh) (rfl) (rfl) (fun z => absurd z (by decide))⟩
  · refine lv_iload_n hx hb dX4_order_13 rfl (lv_at hl 2 rfl) ?_
    refine lv_if_ge (tgt := 23) hx hb dX4_order_14 (by decide) (fun c_3 => ?_) (fun c_3 => ?_)
    · obtain ⟨j, hj, rfl⟩ := inR_nat (show hn < 2 ^ 30 by omega) c_1
      refine lv_iconst (v := nI 0) hx hb dX4_order_23 (by decide +kernel) ?_
      refine lv_istore_n (lv' := [(3, .int (nI 0)), (0, .ref (b 0)), (1, .int (nI j)), (2, .int x2)]) hx hb dX4_order_24 rfl hl (by decide) rfl (fun ls hl => ?_)
      have loop_4 : ∀ (fu : Nat) (ss : Nat)  (ls : Array Slot), n - ss < fu → (ss ≤ n) → (findI (orB n (ma 0) (ma 1) j x2) ss = none) → lv_has ls 6 [(0, .ref (b 0)), (1, .int (nI j)), (2, .int x2), (3, .int (nI ss))] → W p l e rmX4_order s m [.ref (b 0), .int (nI j), .int x2].toArray below meth c H locs 0 0 Q (F0 m 25 ls []) := by
        intro fu
        induction fu with
        | zero => intro ss ls hms hss hfi hl; exact absurd hms (Nat.not_lt_zero _)
        | succ fu ih_4 =>
          intro ss ls hms hss hfi hl
          refine lv_iload_n hx hb dX4_order_25 rfl (lv_at hl 3 rfl) ?_
          refine lv_aload_n hx hb dX4_order_26 rfl (lv_at hl 0 rfl) ?_
          refine x_get (T := TX4) (N := 11) (v := .int (nI n)) hx hb hts in_X4 hown hK (hP 0 _ rfl) rfl 1 (by decide) k_f34 (fun _ h9 => h9) (congrArg (fun z => some (Value.int z)) hmn) dX4_order_27 ?_
          refine x_icmp_ge (tgt := 138) hx hb (by omega) (by omega) dX4_order_30 (by decide) (fun c_5 => ?_) (fun c_5 => ?_)
          · have hsn : ss = n := by omega
            rw [hsn] at hfi
            refine lv_iconst (v := (-1)) hx hb dX4_order_138 (by decide +kernel) ?_
            have hkk9 : k1 (vS hn (nI j) && !decide (x2 < 0)) = 0 := by simp only [k1, Bool.and_true, Bool.true_and, Bool.and_false, Bool.false_and, Bool.not_true, Bool.not_false, c_1, decide_eq_false (Int32.not_lt.mpr c_3)] <;> rfl
            exact x_iret hQ hx hb hr rfl hlk hS.2.2 dX4_order_139 ⟨hS.fr, mQ_mk (k0 := 0) hkk9 hP rfl (hmn) (hmh) (rfl) (rfl) (fun _ => by rw [nI_clamp (show j < 2 ^ 31 by omega), hfi]; rfl)⟩
          · refine lv_aload_n hx hb dX4_order_33 rfl (lv_at hl 0 rfl) ?_
            refine lv_iload_n hx hb dX4_order_34 rfl (lv_at hl 1 rfl) ?_
            refine lv_iload_n hx hb dX4_order_35 rfl (lv_at hl 3 rfl) ?_
            refine x_rd (va_runV (As := [.int (nI j), .int (nI ss)]) (rest := []) hC (c_X4_sees hP hg (by omega) (by omega)) (cwV 2 hts gX4_order_X4_sees rfl rfl rfl qdX4_sees ⟨Nat.le_of_ble_eq_true rfl, Nat.le_of_ble_eq_true rfl⟩) (x_preV hK (x_recv hK (hP 0 _ rfl) rfl)) rfl rfl hl.1 rfl (lv_room (Nat.le_of_ble_eq_true rfl)) dX4_order_36 ⟨Nat.le_of_ble_eq_true rfl, Nat.le_of_ble_eq_true rfl⟩) ?_
            refine W.eq (g2 := F0 m 39 ls [.int (bI (see (ma 0) (ma 1) j ss))]) rfl ?_
            refine x_if_neB (tgt := 45) hx hb dX4_order_39 (by decide) (fun c_6 => ?_) (fun c_6 => ?_)
            · refine lv_iconst (v := nI 0) hx hb dX4_order_45 (by decide +kernel) ?_
              refine lv_istore (lv' := [(4, .int (nI 0)), (0, .ref (b 0)), (1, .int (nI j)), (2, .int x2), (3, .int (nI ss))]) hx hb dX4_order_46 hl (by decide) rfl (fun ls hl => ?_)
              refine lv_iconst (v := nI 0) hx hb dX4_order_48 (by decide +kernel) ?_
              refine lv_istore (lv' := [(5, .int (nI 0)), (4, .int (nI 0)), (0, .ref (b 0)), (1, .int (nI j)), (2, .int x2), (3, .int (nI ss))]) hx hb dX4_order_49 hl (by decide) rfl (fun ls hl => ?_)
              have loop_7 : ∀ (fu : Nat) (oo : Nat)  (ls : Array Slot), n - oo < fu → (oo ≤ n) → lv_has ls 6 [(0, .ref (b 0)), (1, .int (nI j)), (2, .int x2), (3, .int (nI ss)), (4, .int (nI (cnt (ahB (ma 0) (ma 1) j ss) oo))), (5, .int (nI oo))] → W p l e rmX4_order s m [.ref (b 0), .int (nI j), .int x2].toArray below meth c H locs 0 0 Q (F0 m 51 ls []) := by
                intro fu
                induction fu with
                | zero => intro oo ls hms hoo1 hl; exact absurd hms (Nat.not_lt_zero _)
                | succ fu ih_7 =>
                  intro oo ls hms hoo1 hl
                  refine lv_iload hx hb dX4_order_51 (lv_at hl 5 rfl) ?_
                  refine lv_aload_n hx hb dX4_order_53 rfl (lv_at hl 0 rfl) ?_
                  refine x_get (T := TX4) (N := 11) (v := .int (nI n)) hx hb hts in_X4 hown hK (hP 0 _ rfl) rfl 1 (by decide) k_f34 (fun _ h9 => h9) (congrArg (fun z => some (Value.int z)) hmn) dX4_order_54 ?_
                  refine x_icmp_ge (tgt := 124) hx hb (by omega) (by omega) dX4_order_57 (by decide) (fun c_8 => ?_) (fun c_8 => ?_)
                  · have hl : lv_has ls 6 [(0, .ref (b 0)), (1, .int (nI j)), (2, .int x2), (3, .int (nI ss)), (4, .int (nI (cnt (ahB (ma 0) (ma 1) j ss) n))), (5, .int (nI oo))] := by
                      have e9 : (cnt (ahB (ma 0) (ma 1) j ss) n) = (cnt (ahB (ma 0) (ma 1) j ss) oo) := by rw [show oo = n by omega]
                      rw [e9]; exact hl
                    refine lv_iload hx hb dX4_order_124 (lv_at hl 4 rfl) ?_
                    refine lv_iload_n hx hb dX4_order_126 rfl (lv_at hl 2 rfl) ?_
                    refine lv_icmp_ne (tgt := 132) hx hb dX4_order_127 (by decide) (fun c_9 => ?_) (fun c_9 => ?_)
                    · refine lv_iinc (v := nI (ss + 1)) (lv' := [(3, .int (nI (ss + 1))), (0, .ref (b 0)), (1, .int (nI j)), (2, .int x2), (4, .int (nI (cnt (ahB (ma 0) (ma 1) j ss) n))), (5, .int (nI oo))]) hx hb dX4_order_132 hl (k := 3) rfl (nI_incn _) (by decide) rfl (fun ls hl => ?_)
                      refine lv_goto (tgt := 25) hx hb dX4_order_135 (by decide) ?_
                      exact ih_4 (ss + 1) ls (by omega) (by omega) (findI_no hfi (by rw [orB, c_6, Bool.true_and]; exact decide_eq_false c_9)) (lv_sub hl [1, 2, 3, 0] rfl)
                    · refine lv_iload_n hx hb dX4_order_130 rfl (lv_at hl 3 rfl) ?_
                      have hkk9 : k1 (vS hn (nI j) && !decide (x2 < 0)) = 0 := by simp only [k1, Bool.and_true, Bool.true_and, Bool.and_false, Bool.false_and, Bool.not_true, Bool.not_false, c_1, decide_eq_false (Int32.not_lt.mpr c_3)] <;> rfl
                      exact x_iret hQ hx hb hr rfl hlk hS.2.2 dX4_order_131 ⟨hS.fr, mQ_mk (k0 := 0) hkk9 hP rfl (hmn) (hmh) (rfl) (rfl) (fun _ => by rw [nI_clamp (show j < 2 ^ 31 by omega), findI_up hfi (by rw [orB, c_6, Bool.true_and]; exact decide_eq_true c_9) n (by omega)]; rfl)⟩
                  · refine lv_iload hx hb dX4_order_60 (lv_at hl 4 rfl) ?_
                    have j_10 : W p l e rmX4_order s m [.ref (b 0), .int (nI j), .int x2].toArray below meth c H locs 0 0 Q (F0 m 115 ls [.int (nI (((ahB (ma 0) (ma 1) j ss) oo).toNat)), .int (nI (cnt (ahB (ma 0) (ma 1) j ss) oo))]) := by
                      refine x_iaddN hx hb dX4_order_115 ?_
                      refine lv_istore (lv' := [(4, .int (nI ((cnt (ahB (ma 0) (ma 1) j ss) oo) + (((ahB (ma 0) (ma 1) j ss) oo).toNat)))), (0, .ref (b 0)), (1, .int (nI j)), (2, .int x2), (3, .int (nI ss)), (5, .int (nI oo))]) hx hb dX4_order_116 hl (by decide) rfl (fun ls hl => ?_)
                      refine lv_iinc (v := nI (oo + 1)) (lv' := [(5, .int (nI (oo + 1))), (4, .int (nI ((cnt (ahB (ma 0) (ma 1) j ss) oo) + (((ahB (ma 0) (ma 1) j ss) oo).toNat)))), (0, .ref (b 0)), (1, .int (nI j)), (2, .int x2), (3, .int (nI ss))]) hx hb dX4_order_118 hl (k := 5) rfl (nI_incn _) (by decide) rfl (fun ls hl => ?_)
                      refine lv_goto (tgt := 51) hx hb dX4_order_121 (by decide) ?_
                      exact ih_7 (oo + 1) ls (by omega) (by omega) (lv_sub hl [2, 3, 4, 5, 1, 0] rfl)
                    refine lv_aload_n hx hb dX4_order_62 rfl (lv_at hl 0 rfl) ?_
                    refine lv_iload_n hx hb dX4_order_63 rfl (lv_at hl 1 rfl) ?_
                    refine lv_iload hx hb dX4_order_64 (lv_at hl 5 rfl) ?_
                    refine x_rd (va_runV (As := [.int (nI j), .int (nI oo)]) (rest := [.int (nI (cnt (ahB (ma 0) (ma 1) j ss) oo))]) hC (c_X4_sees hP hg (by omega) (by omega)) (cwV 2 hts gX4_order_X4_sees rfl rfl rfl qdX4_sees ⟨Nat.le_of_ble_eq_true rfl, Nat.le_of_ble_eq_true rfl⟩) (x_preV hK (x_recv hK (hP 0 _ rfl) rfl)) rfl rfl hl.1 rfl (lv_room (Nat.le_of_ble_eq_true rfl)) dX4_order_66 ⟨Nat.le_of_ble_eq_true rfl, Nat.le_of_ble_eq_true rfl⟩) ?_
                    refine W.eq (g2 := F0 m 69 ls [.int (bI (see (ma 0) (ma 1) j oo)), .int (nI (cnt (ahB (ma 0) (ma 1) j ss) oo))]) rfl ?_
                    refine x_if_eqB (tgt := 114) hx hb dX4_order_69 (by decide) (fun c_11 => ?_) (fun c_11 => ?_)
                    · refine lv_iconst (v := nI 0) hx hb dX4_order_114 (by decide +kernel) ?_
                      exact W.eq (g2 := F0 m 115 ls [.int (nI (((ahB (ma 0) (ma 1) j ss) oo).toNat)), .int (nI (cnt (ahB (ma 0) (ma 1) j ss) oo))]) (congrArg (fun z => F0 m 115 ls (.int z :: [.int (nI (cnt (ahB (ma 0) (ma 1) j ss) oo))])) (congrArg nI (by rw [ahB, c_11]; rfl))) j_10
                    · refine lv_aload_n hx hb dX4_order_72 rfl (lv_at hl 0 rfl) ?_
                      refine lv_iload_n hx hb dX4_order_73 rfl (lv_at hl 1 rfl) ?_
                      refine lv_iload hx hb dX4_order_74 (lv_at hl 5 rfl) ?_
                      refine x_rd (va_runV (As := [.int (nI j), .int (nI oo)]) (rest := [.int (nI (cnt (ahB (ma 0) (ma 1) j ss) oo))]) hC (c_X4_readingOf hP hg (by omega) (by omega)) (cwV 2 hts gX4_order_X4_readingOf rfl rfl rfl qdX4_readingOf ⟨Nat.le_of_ble_eq_true rfl, Nat.le_of_ble_eq_true rfl⟩) (x_preV hK (x_recv hK (hP 0 _ rfl) rfl)) rfl rfl hl.1 rfl (lv_room (Nat.le_of_ble_eq_true rfl)) dX4_order_76 ⟨Nat.le_of_ble_eq_true rfl, Nat.le_of_ble_eq_true rfl⟩) ?_
                      refine W.eq (g2 := F0 m 79 ls [.int (rdg (ma 0) (ma 1) j oo), .int (nI (cnt (ahB (ma 0) (ma 1) j ss) oo))]) rfl ?_
                      refine lv_aload_n hx hb dX4_order_79 rfl (lv_at hl 0 rfl) ?_
                      refine lv_iload_n hx hb dX4_order_80 rfl (lv_at hl 1 rfl) ?_
                      refine lv_iload_n hx hb dX4_order_81 rfl (lv_at hl 3 rfl) ?_
                      refine x_rd (va_runV (As := [.int (nI j), .int (nI ss)]) (rest := [.int (rdg (ma 0) (ma 1) j oo), .int (nI (cnt (ahB (ma 0) (ma 1) j ss) oo))]) hC (c_X4_readingOf hP hg (by omega) (by omega)) (cwV 2 hts gX4_order_X4_readingOf rfl rfl rfl qdX4_readingOf ⟨Nat.le_of_ble_eq_true rfl, Nat.le_of_ble_eq_true rfl⟩) (x_preV hK (x_recv hK (hP 0 _ rfl) rfl)) rfl rfl hl.1 rfl (lv_room (Nat.le_of_ble_eq_true rfl)) dX4_order_82 ⟨Nat.le_of_ble_eq_true rfl, Nat.le_of_ble_eq_true rfl⟩) ?_
                      refine W.eq (g2 := F0 m 85 ls [.int (rdg (ma 0) (ma 1) j ss), .int (rdg (ma 0) (ma 1) j oo), .int (nI (cnt (ahB (ma 0) (ma 1) j ss) oo))]) rfl ?_
                      refine lv_icmp_lt (tgt := 110) hx hb dX4_order_85 (by decide) (fun c_12 => ?_) (fun c_12 => ?_)
                      · refine lv_iconst (v := nI 1) hx hb dX4_order_110 (by decide +kernel) ?_
                        refine lv_goto (tgt := 115) hx hb dX4_order_111 (by decide) ?_
                        exact W.eq (g2 := F0 m 115 ls [.int (nI (((ahB (ma 0) (ma 1) j ss) oo).toNat)), .int (nI (cnt (ahB (ma 0) (ma 1) j ss) oo))]) (congrArg (fun z => F0 m 115 ls (.int z :: [.int (nI (cnt (ahB (ma 0) (ma 1) j ss) oo))])) (congrArg nI (by rw [ahB, c_11, decide_eq_true c_12]; rfl))) j_10
                      · refine lv_aload_n hx hb dX4_order_88 rfl (lv_at hl 0 rfl) ?_
                        refine lv_iload_n hx hb dX4_order_89 rfl (lv_at hl 1 rfl) ?_
                        refine lv_iload hx hb dX4_order_90 (lv_at hl 5 rfl) ?_
                        refine x_rd (va_runV (As := [.int (nI j), .int (nI oo)]) (rest := [.int (nI (cnt (ahB (ma 0) (ma 1) j ss) oo))]) hC (c_X4_readingOf hP hg (by omega) (by omega)) (cwV 2 hts gX4_order_X4_readingOf rfl rfl rfl qdX4_readingOf ⟨Nat.le_of_ble_eq_true rfl, Nat.le_of_ble_eq_true rfl⟩) (x_preV hK (x_recv hK (hP 0 _ rfl) rfl)) rfl rfl hl.1 rfl (lv_room (Nat.le_of_ble_eq_true rfl)) dX4_order_92 ⟨Nat.le_of_ble_eq_true rfl, Nat.le_of_ble_eq_true rfl⟩) ?_
                        refine W.eq (g2 := F0 m 95 ls [.int (rdg (ma 0) (ma 1) j oo), .int (nI (cnt (ahB (ma 0) (ma 1) j ss) oo))]) rfl ?_
                        refine lv_aload_n hx hb dX4_order_95 rfl (lv_at hl 0 rfl) ?_
                        refine lv_iload_n hx hb dX4_order_96 rfl (lv_at hl 1 rfl) ?_
                        refine lv_iload_n hx hb dX4_order_97 rfl (lv_at hl 3 rfl) ?_
                        refine x_rd (va_runV (As := [.int (nI j), .int (nI ss)]) (rest := [.int (rdg (ma 0) (ma 1) j oo), .int (nI (cnt (ahB (ma 0) (ma 1) j ss) oo))]) hC (c_X4_readingOf hP hg (by omega) (by omega)) (cwV 2 hts gX4_order_X4_readingOf rfl rfl rfl qdX4_readingOf ⟨Nat.le_of_ble_eq_true rfl, Nat.le_of_ble_eq_true rfl⟩) (x_preV hK (x_recv hK (hP 0 _ rfl) rfl)) rfl rfl hl.1 rfl (lv_room (Nat.le_of_ble_eq_true rfl)) dX4_order_98 ⟨Nat.le_of_ble_eq_true rfl, Nat.le_of_ble_eq_true rfl⟩) ?_
                        refine W.eq (g2 := F0 m 101 ls [.int (rdg (ma 0) (ma 1) j ss), .int (rdg (ma 0) (ma 1) j oo), .int (nI (cnt (ahB (ma 0) (ma 1) j ss) oo))]) rfl ?_
                        refine lv_icmp_ne (tgt := 114) hx hb dX4_order_101 (by decide) (fun c_13 => ?_) (fun c_13 => ?_)
                        · refine lv_iconst (v := nI 0) hx hb dX4_order_114 (by decide +kernel) ?_
                          exact W.eq (g2 := F0 m 115 ls [.int (nI (((ahB (ma 0) (ma 1) j ss) oo).toNat)), .int (nI (cnt (ahB (ma 0) (ma 1) j ss) oo))]) (congrArg (fun z => F0 m 115 ls (.int z :: [.int (nI (cnt (ahB (ma 0) (ma 1) j ss) oo))])) (congrArg nI (by rw [ahB, c_11, decide_eq_false c_12, decide_eq_false c_13]; rfl))) j_10
                        · refine lv_iload hx hb dX4_order_104 (lv_at hl 5 rfl) ?_
                          refine lv_iload_n hx hb dX4_order_106 rfl (lv_at hl 3 rfl) ?_
                          refine x_icmp_ge (tgt := 114) hx hb (by omega) (by omega) dX4_order_107 (by decide) (fun c_14 => ?_) (fun c_14 => ?_)
                          · refine lv_iconst (v := nI 0) hx hb dX4_order_114 (by decide +kernel) ?_
                            exact W.eq (g2 := F0 m 115 ls [.int (nI (((ahB (ma 0) (ma 1) j ss) oo).toNat)), .int (nI (cnt (ahB (ma 0) (ma 1) j ss) oo))]) (congrArg (fun z => F0 m 115 ls (.int z :: [.int (nI (cnt (ahB (ma 0) (ma 1) j ss) oo))])) (congrArg nI (by rw [ahB, c_11, decide_eq_false c_12, decide_eq_true c_13, decide_eq_false (Nat.not_lt.mpr c_14)]; rfl))) j_10
                          · refine lv_iconst (v := nI 1) hx hb dX4_order_110 (by decide +kernel) ?_
                            refine lv_goto (tgt := 115) hx hb dX4_order_111 (by decide) ?_
                            exact W.eq (g2 := F0 m 115 ls [.int (nI (((ahB (ma 0) (ma 1) j ss) oo).toNat)), .int (nI (cnt (ahB (ma 0) (ma 1) j ss) oo))]) (congrArg (fun z => F0 m 115 ls (.int z :: [.int (nI (cnt (ahB (ma 0) (ma 1) j ss) oo))])) (congrArg nI (by rw [ahB, c_11, decide_eq_false c_12, decide_eq_true c_13, decide_eq_true c_14]; rfl))) j_10
              exact loop_7 _ 0 ls (Nat.lt_succ_self _) (Nat.zero_le _) (lv_sub hl [2, 3, 4, 5, 1, 0] rfl)
            · refine lv_goto (tgt := 132) hx hb dX4_order_42 (by decide) ?_
              refine lv_iinc (v := nI (ss + 1)) (lv' := [(3, .int (nI (ss + 1))), (0, .ref (b 0)), (1, .int (nI j)), (2, .int x2)]) hx hb dX4_order_132 hl (k := 3) rfl (nI_incn _) (by decide) rfl (fun ls hl => ?_)
              refine lv_goto (tgt := 25) hx hb dX4_order_135 (by decide) ?_
              exact ih_4 (ss + 1) ls (by omega) (by omega) (findI_no hfi (by rw [orB, c_6]; rfl)) (lv_sub hl [1, 2, 3, 0] rfl)
      exact loop_4 _ 0 ls (Nat.lt_succ_self _) (Nat.zero_le _) (rfl) (lv_sub hl [1, 2, 3, 0] rfl)
    · refine lv_aload_n hx hb dX4_order_17 rfl (lv_at hl 0 rfl) ?_
      refine lv_iconst (v := nI 1) hx hb dX4_order_18 (by decide +kernel) ?_
      refine x_runi (va_runV (As := [.int (nI 1)]) (rest := []) hC (c_X4_fail hP hD) (cwV 1 hts gX4_order_X4_fail rfl rfl rfl qdX4_fail ⟨Nat.le_of_ble_eq_true rfl, Nat.le_of_ble_eq_true rfl⟩) (x_preV hK (x_recv hK (hP 0 _ rfl) rfl)) rfl rfl hl.1 rfl (lv_room (Nat.le_of_ble_eq_true rfl)) dX4_order_19 ⟨Nat.le_of_ble_eq_true rfl, Nat.le_of_ble_eq_true rfl⟩) hS (fun _ h => h) (fun r_15 H locs hfr hΦ hS => ?_)
      obtain ⟨er_15, hP⟩ := hΦ
      rw [er_15]
      have hP : mP G b (va_up mi 0 (nI 1)) ma H := hP
      have hD : va_D A (mW G b (va_up mi 0 (nI 1)) ma) := hD.same rfl
      have hkk9 : k1 (vS hn x1 && !decide (x2 < 0)) = 1 := by simp only [k1, Bool.and_true, Bool.true_and, Bool.and_false, Bool.false_and, Bool.not_true, Bool.not_false, c_1, decide_eq_true (Int32.not_le.mp c_3)] <;> rfl
      have hkn9 : ¬ k1 (vS hn x1 && !decide (x2 < 0)) = 0 := by rw [hkk9]; decide
      exact x_iret hQ hx hb hr rfl hlk hS.2.2 dX4_order_22 ⟨hS.fr, mQ_mk (k0 := 1) hkk9 hP rfl (hmn) (hmh) (rfl) (rfl) (fun z => absurd z (by decide))⟩
/-- the correction that station s is to have, so that it reads rd at t -/
def alC (L : Nat → Int32) (s : Nat) (t rd : Int32) : Int32 := gL L s 3 + clk L s t - rd
/-- are those of the first k as they may be -/
def alB (L : Nat → Int32) (t rd : Int32) : Nat → Bool
  | 0 => true
  | k + 1 => alB L t rd k && inR (-100000) (nI 100000) (alC L k t rd)
/-- those of the first k set -/
def alL (L : Nat → Int32) (t rd : Int32) : Nat → Nat → Int32
  | 0 => L
  | k + 1 => upd (alL L t rd k) (13 * k + 3) (gL L k 3 + (clk L k t - rd))
theorem alL_at (L : Nat → Int32) (t rd : Int32) {s w : Nat} (hw : w < 13) : ∀ k, k ≤ s → gL (alL L t rd k) s w = gL L s w := by
  intro k
  induction k with
  | zero => intro _; rfl
  | succ k ih =>
    intro h
    show upd (alL L t rd k) (13 * k + 3) _ (13 * s + w) = _
    rw [pk_un (by omega)]
    exact ih (by omega)
theorem clk_congr {L L' : Nat → Int32} {s : Nat} (t : Int32) (h : ∀ w, w < 13 → gL L s w = gL L' s w) : clk L s t = clk L' s t := by
  unfold clk
  rw [h 1 (by omega), h 2 (by omega), h 3 (by omega)]
theorem alB_at {L : Nat → Int32} {t rd : Int32} {n : Nat} (h : alB L t rd n = true) : ∀ k, k < n → inR (-100000) (nI 100000) (alC L k t rd) = true := by
  induction n with
  | zero => intro k hk; omega
  | succ n ih =>
    intro k hk
    have h1 : (alB L t rd n && inR (-100000) (nI 100000) (alC L n t rd)) = true := h
    rw [Bool.and_eq_true] at h1
    rcases Nat.lt_or_ge k n with e | e
    · exact ih h1.1 k e
    · have e2 : k = n := by omega
      rw [e2]; exact h1.2
theorem alB_no {L : Nat → Int32} {t rd : Int32} {k : Nat} (h : inR (-100000) (nI 100000) (alC L k t rd) = false) : ∀ n, k < n → alB L t rd n = false := by
  intro n
  induction n with
  | zero => intro hk; omega
  | succ n ih =>
    intro hk
    show (alB L t rd n && inR (-100000) (nI 100000) (alC L n t rd)) = false
    rcases Nat.lt_or_ge k n with e | e
    · rw [ih e]; rfl
    · have e2 : k = n := by omega
      rw [← e2, h, Bool.and_false]
/-- how many are other ones -/
abbrev alD (L : Nat → Int32) (t rd : Int32) (s : Nat) : Bool := decide (¬ clk L s t - rd = 0)
abbrev rmX4_align : Room := { frames := 2, cells := 0, slots := 0, locals := 44 }
theorem qdX4_align : yX4_align.cls = RX4 ∧ yX4_align.cls ≠ "java/lang/invoke/MethodHandle" ∧ yX4_align.cls ≠ "java/lang/invoke/VarHandle" ∧ (parseMethodDescriptor yX4_align.desc).map (fun d => d.parameters.length) = some 2 := by decide +kernel
set_option maxHeartbeats 4000000 in
set_option maxRecDepth 100000 in
theorem c_X4_align {l : Launch} {G : gT} {A : Nat → Prop} {b : Nat → Nat} {mi : Nat → Int32} {ma : Nat → Nat → Int32} {H0 : Heap} {n hn : Nat} {x1 x2 : Int32} (hP : mP G b mi ma H0) (hD : va_D A (mW G b mi ma)) (hmn : mi 1 = nI n) (hmh : mi 2 = nI hn) (hg : OK n hn (ma 0) (ma 1)) : WrI G l yX4_align wsX4_align rmX4_align [.ref (b 0), .int x1, .int x2] H0 A (fun r H1 => mQ G b n hn (if k3 (vS n x1) (isT x2) (alB (ma 0) x2 (clk (ma 0) x1.toNatClampNeg x2) n) = 0 then alL (ma 0) x2 (clk (ma 0) x1.toNatClampNeg x2) n else (ma 0)) (ma 1) (k3 (vS n x1) (isT x2) (alB (ma 0) x2 (clk (ma 0) x1.toNatClampNeg x2) n)) (nI (cnt (alD (ma 0) x2 (clk (ma 0) x1.toNatClampNeg x2)) n)) r H1) := by
  refine x_head (bytes := cX4_align) (maxL := 7) (ret := (some .int)) (by decide) rfl (Nat.le_of_ble_eq_true rfl) ?_
  intro p e s m below meth c ls hx hb hml hown hts hr hlk hnm hK hs0 hl Q hQ
  have hl : lv_has ls 7 [(0, .ref (b 0)), (1, .int x1), (2, .int x2)] := hl
  have hC : CallFix p m c cX4_align 7 s [.ref (b 0), .int x1, .int x2].toArray wsX4_align RX4 := ⟨hx, hb, hml, hown, hts⟩
  have k_f25 := hts (.fieldLink RX4 25 "SundogLineModel" "thrown" "I") (by decide +kernel)
  have in_X4 : ∀ w ∈ u_ws RX4 TX4 11, w ∈ wsX4_align := by decide +kernel
  have k_f34 := hts (.fieldLink RX4 34 "SundogLineModel" "stations" "I") (by decide +kernel)
  have k_c56 := hts (.constant RX4 56 (-100000)) (by decide +kernel)
  have k_c57 := hts (.constant RX4 57 (100000)) (by decide +kernel)
  have hS : va_S A H0 H0 [] := va_S.rf
  have hn12 := hg.n
  have hh16 := hg.hn
  refine lv_aload_n hx hb dX4_align_0 rfl (lv_at hl 0 rfl) ?_
  refine lv_iconst (v := nI 0) hx hb dX4_align_1 (by decide +kernel) ?_
  refine va_put (D := gD G) (ci := 4) (v := .int (nI 0)) (ty := .int) (C := RX4) (T := TX4) (N := 11) hx hb hts in_X4 tyX4 tyX4_ok nmX4 hown hK hP hD hS 0 rfl rfl 0 (by decide) k_f25 (fun _ h9 => h9) rfl (by decide +kernel) rfl rfl (Nat.le_of_ble_eq_true rfl) dX4_align_2 (fun H locs hP hD hS => ?_)
  have hP : mP G b (va_up mi 0 (nI 0)) ma H := hP
  have hD : va_D A (mW G b (va_up mi 0 (nI 0)) ma) := hD
  refine lv_aload_n hx hb dX4_align_5 rfl (lv_at hl 0 rfl) ?_
  refine lv_iload_n hx hb dX4_align_6 rfl (lv_at hl 1 rfl) ?_
  refine x_rd (va_runV (As := [.int x1]) (rest := []) hC (c_X4_isStation hP hmn) (cwV 1 hts gX4_align_X4_isStation rfl rfl rfl qdX4_isStation ⟨Nat.le_of_ble_eq_true rfl, Nat.le_of_ble_eq_true rfl⟩) (x_preV hK (x_recv hK (hP 0 _ rfl) rfl)) rfl rfl hl.1 rfl (lv_room (Nat.le_of_ble_eq_true rfl)) dX4_align_7 ⟨Nat.le_of_ble_eq_true rfl, Nat.le_of_ble_eq_true rfl⟩) ?_
  refine W.eq (g2 := F0 m 10 ls [.int (bI (vS n x1))]) rfl ?_
  refine x_if_neB (tgt := 19) hx hb dX4_align_10 (by decide) (fun c_1 => ?_) (fun c_1 => ?_)
  · obtain ⟨i, hi, rfl⟩ := inR_nat (show n < 2 ^ 30 by omega) c_1
    refine lv_iload_n hx hb dX4_align_19 rfl (lv_at hl 2 rfl) ?_
    refine x_rd (va_runS (As := [.int x2]) (rest := []) hC (c_X4_isTime) (cwS 1 hts gX4_align_X4_isTime rfl rfl rfl qdX4_isTime ⟨Nat.le_of_ble_eq_true rfl, Nat.le_of_ble_eq_true rfl⟩) (x_preS hK) rfl rfl hl.1 rfl (lv_room (Nat.le_of_ble_eq_true rfl)) dX4_align_20 ⟨Nat.le_of_ble_eq_true rfl, Nat.le_of_ble_eq_true rfl⟩) ?_
    refine W.eq (g2 := F0 m 23 ls [.int (bI (inR (nI 0) (nI 1000000) x2))]) rfl ?_
    refine x_if_neB (tgt := 32) hx hb dX4_align_23 (by decide) (fun c_2 => ?_) (fun c_2 => ?_)
    · refine lv_aload_n hx hb dX4_align_32 rfl (lv_at hl 0 rfl) ?_
      refine lv_iload_n hx hb dX4_align_33 rfl (lv_at hl 1 rfl) ?_
      refine lv_iload_n hx hb dX4_align_34 rfl (lv_at hl 2 rfl) ?_
      refine x_rd (va_runV (As := [.int (nI i), .int x2]) (rest := []) hC (c_X4_clockOf hP (by omega)) (cwV 2 hts gX4_align_X4_clockOf rfl rfl rfl qdX4_clockOf ⟨Nat.le_of_ble_eq_true rfl, Nat.le_of_ble_eq_true rfl⟩) (x_preV hK (x_recv hK (hP 0 _ rfl) rfl)) rfl rfl hl.1 rfl (lv_room (Nat.le_of_ble_eq_true rfl)) dX4_align_35 ⟨Nat.le_of_ble_eq_true rfl, Nat.le_of_ble_eq_true rfl⟩) ?_
      refine W.eq (g2 := F0 m 38 ls [.int (clk (ma 0) i x2)]) rfl ?_
      refine lv_istore_n (lv' := [(3, .int (clk (ma 0) i x2)), (0, .ref (b 0)), (1, .int (nI i)), (2, .int x2)]) hx hb dX4_align_38 rfl hl (by decide) rfl (fun ls hl => ?_)
      refine lv_iconst (v := nI 0) hx hb dX4_align_39 (by decide +kernel) ?_
      refine lv_istore (lv' := [(4, .int (nI 0)), (3, .int (clk (ma 0) i x2)), (0, .ref (b 0)), (1, .int (nI i)), (2, .int x2)]) hx hb dX4_align_40 hl (by decide) rfl (fun ls hl => ?_)
      refine lv_iconst (v := nI 0) hx hb dX4_align_42 (by decide +kernel) ?_
      refine lv_istore (lv' := [(5, .int (nI 0)), (4, .int (nI 0)), (3, .int (clk (ma 0) i x2)), (0, .ref (b 0)), (1, .int (nI i)), (2, .int x2)]) hx hb dX4_align_43 hl (by decide) rfl (fun ls hl => ?_)
      have loop_3 : ∀ (fu : Nat) (ss : Nat)  (ls : Array Slot), n - ss < fu → (ss ≤ n) → (alB (ma 0) x2 (clk (ma 0) i x2) ss = true) → lv_has ls 7 [(0, .ref (b 0)), (1, .int (nI i)), (2, .int x2), (3, .int ((clk (ma 0) i x2))), (4, .int (nI 0)), (5, .int (nI ss))] → W p l e rmX4_align s m [.ref (b 0), .int (nI i), .int x2].toArray below meth c H locs 0 0 Q (F0 m 45 ls []) := by
        intro fu
        induction fu with
        | zero => intro ss ls hms hss halb hl; exact absurd hms (Nat.not_lt_zero _)
        | succ fu ih_3 =>
          intro ss ls hms hss halb hl
          refine lv_iload hx hb dX4_align_45 (lv_at hl 5 rfl) ?_
          refine lv_aload_n hx hb dX4_align_47 rfl (lv_at hl 0 rfl) ?_
          refine x_get (T := TX4) (N := 11) (v := .int (nI n)) hx hb hts in_X4 hown hK (hP 0 _ rfl) rfl 1 (by decide) k_f34 (fun _ h9 => h9) (congrArg (fun z => some (Value.int z)) hmn) dX4_align_48 ?_
          refine x_icmp_ge (tgt := 93) hx hb (by omega) (by omega) dX4_align_51 (by decide) (fun c_4 => ?_) (fun c_4 => ?_)
          · refine lv_iconst (v := nI 0) hx hb dX4_align_93 (by decide +kernel) ?_
            refine lv_istore (lv' := [(5, .int (nI 0)), (0, .ref (b 0)), (1, .int (nI i)), (2, .int x2), (3, .int ((clk (ma 0) i x2))), (4, .int (nI 0))]) hx hb dX4_align_94 hl (by decide) rfl (fun ls hl => ?_)
            have halb : alB (ma 0) x2 (clk (ma 0) i x2) n = true := (show ss = n by omega) ▸ halb
            have hP : mP G b (va_up mi 0 (nI 0)) (va_up ma 0 (alL (ma 0) x2 (clk (ma 0) i x2) 0)) H := hP
            have hD : va_D A (mW G b (va_up mi 0 (nI 0)) (va_up ma 0 (alL (ma 0) x2 (clk (ma 0) i x2) 0))) := hD.same rfl
            have loop_5 : ∀ (fu : Nat) (cc : Nat) (H : Heap) (locs : List Loc) (ls : Array Slot), n - cc < fu → (cc ≤ n) → (va_P (gD G) vC (mW G b (va_up mi 0 (nI 0)) (va_up ma 0 (alL (ma 0) x2 (clk (ma 0) i x2) cc))) H) → (va_S A H0 H locs) → lv_has ls 7 [(0, .ref (b 0)), (2, .int x2), (3, .int ((clk (ma 0) i x2))), (4, .int (nI (cnt (alD (ma 0) x2 (clk (ma 0) i x2)) cc))), (5, .int (nI cc))] → W p l e rmX4_align s m [.ref (b 0), .int (nI i), .int x2].toArray below meth c H locs 0 0 Q (F0 m 96 ls []) := by
              intro fu
              induction fu with
              | zero => intro cc H locs ls hms hcc hP hS hl; exact absurd hms (Nat.not_lt_zero _)
              | succ fu ih_5 =>
                intro cc H locs ls hms hcc hP hS hl
                have hD : va_D A (mW G b (va_up mi 0 (nI 0)) (va_up ma 0 (alL (ma 0) x2 (clk (ma 0) i x2) cc))) := hD.same rfl
                refine lv_iload hx hb dX4_align_96 (lv_at hl 4 rfl) ?_
                refine lv_aload_n hx hb dX4_align_98 rfl (lv_at hl 0 rfl) ?_
                refine x_get (T := TX4) (N := 11) (v := .int (nI n)) hx hb hts in_X4 hown hK (hP 0 _ rfl) rfl 1 (by decide) k_f34 (fun _ h9 => h9) (congrArg (fun z => some (Value.int z)) hmn) dX4_align_99 ?_
                refine x_icmp_ge (tgt := 154) hx hb (by omega) (by omega) dX4_align_102 (by decide) (fun c_6 => ?_) (fun c_6 => ?_)
                · refine lv_iload hx hb dX4_align_154 (lv_at hl 3 rfl) ?_
                  have hkk9 : k3 (vS n (nI i)) (isT x2) (alB (ma 0) x2 (clk (ma 0) (nI i).toNatClampNeg x2) n) = 0 := by simp only [k3, c_1, c_2, nI_clamp (show i < 2 ^ 31 by omega), halb] <;> rfl
                  exact x_iret hQ hx hb hr rfl hlk hS.2.2 dX4_align_156 ⟨hS.fr, mQ_mk (k0 := 0) hkk9 hP rfl (hmn) (hmh) (by rw [if_pos hkk9, nI_clamp (show i < 2 ^ 31 by omega), show n = cc by omega] <;> rfl) (rfl) (fun _ => by rw [nI_clamp (show i < 2 ^ 31 by omega), show n = cc by omega])⟩
                · refine lv_aload_n hx hb dX4_align_105 rfl (lv_at hl 0 rfl) ?_
                  refine lv_iload hx hb dX4_align_106 (lv_at hl 4 rfl) ?_
                  refine lv_iload_n hx hb dX4_align_108 rfl (lv_at hl 1 rfl) ?_
                  refine x_rd (va_runV (As := [.int (nI cc), .int x2]) (rest := []) hC (c_X4_clockOf hP (by omega)) (cwV 2 hts gX4_align_X4_clockOf rfl rfl rfl qdX4_clockOf ⟨Nat.le_of_ble_eq_true rfl, Nat.le_of_ble_eq_true rfl⟩) (x_preV hK (x_recv hK (hP 0 _ rfl) rfl)) rfl rfl hl.1 rfl (lv_room (Nat.le_of_ble_eq_true rfl)) dX4_align_109 ⟨Nat.le_of_ble_eq_true rfl, Nat.le_of_ble_eq_true rfl⟩) ?_
                  refine W.eq (g2 := F0 m 112 ls [.int (clk (alL (ma 0) x2 (clk (ma 0) i x2) cc) cc x2)]) rfl ?_
                  refine W.eq (g2 := F0 m 112 ls [.int (clk (ma 0) cc x2)]) (congrArg (fun z => F0 m 112 ls (.int z :: [])) (clk_congr x2 (fun w9 hw9 => alL_at (ma 0) x2 (clk (ma 0) i x2) hw9 cc (Nat.le_refl _)))) ?_
                  refine lv_iload_n hx hb dX4_align_112 rfl (lv_at hl 2 rfl) ?_
                  refine lv_isub hx hb dX4_align_113 ?_
                  refine lv_istore (lv' := [(6, .int ((clk (ma 0) cc x2) - (clk (ma 0) i x2))), (0, .ref (b 0)), (2, .int x2), (3, .int ((clk (ma 0) i x2))), (4, .int (nI (cnt (alD (ma 0) x2 (clk (ma 0) i x2)) cc))), (5, .int (nI cc))]) hx hb dX4_align_114 hl (by decide) rfl (fun ls hl => ?_)
                  refine lv_aload_n hx hb dX4_align_116 rfl (lv_at hl 1 rfl) ?_
                  refine lv_iload hx hb dX4_align_117 (lv_at hl 5 rfl) ?_
                  refine lv_iconst (v := nI 3) hx hb dX4_align_119 (by decide +kernel) ?_
                  refine lv_aload_n hx hb dX4_align_120 rfl (lv_at hl 1 rfl) ?_
                  refine lv_iload hx hb dX4_align_121 (lv_at hl 5 rfl) ?_
                  refine lv_iconst (v := nI 3) hx hb dX4_align_123 (by decide +kernel) ?_
                  refine x_rd (va_runV (As := [.int (nI cc), .int (nI 3)]) (rest := [.int (nI 3), .int (nI cc), .ref (b 0)]) hC (c_X4_get hP (by omega) (by omega)) (cwV 2 hts gX4_align_X4_get rfl rfl rfl qdX4_get ⟨Nat.le_of_ble_eq_true rfl, Nat.le_of_ble_eq_true rfl⟩) (x_preV hK (x_recv hK (hP 0 _ rfl) rfl)) rfl rfl hl.1 rfl (lv_room (Nat.le_of_ble_eq_true rfl)) dX4_align_124 ⟨Nat.le_of_ble_eq_true rfl, Nat.le_of_ble_eq_true rfl⟩) ?_
                  refine W.eq (g2 := F0 m 127 ls [.int (gL (alL (ma 0) x2 (clk (ma 0) i x2) cc) cc 3), .int (nI 3), .int (nI cc), .ref (b 0)]) rfl ?_
                  refine W.eq (g2 := F0 m 127 ls [.int (gL (ma 0) cc 3), .int (nI 3), .int (nI cc), .ref (b 0)]) (congrArg (fun z => F0 m 127 ls (.int z :: [.int (nI 3), .int (nI cc), .ref (b 0)])) (alL_at (ma 0) x2 (clk (ma 0) i x2) (by decide) cc (Nat.le_refl _))) ?_
                  refine lv_iload hx hb dX4_align_127 (lv_at hl 0 rfl) ?_
                  refine lv_iadd hx hb dX4_align_129 ?_
                  refine x_runv (va_runV (As := [.int (nI cc), .int (nI 3), .int ((gL (ma 0) cc 3) + ((clk (ma 0) cc x2) - (clk (ma 0) i x2)))]) (rest := []) hC (c_X4_set hP hD (by omega) (by omega)) (cwV 3 hts gX4_align_X4_set rfl rfl rfl qdX4_set ⟨Nat.le_of_ble_eq_true rfl, Nat.le_of_ble_eq_true rfl⟩) (x_preV hK (x_recv hK (hP 0 _ rfl) rfl)) rfl rfl hl.1 rfl (lv_room (Nat.le_of_ble_eq_true rfl)) dX4_align_130 ⟨Nat.le_of_ble_eq_true rfl, Nat.le_of_ble_eq_true rfl⟩) hS (fun _ h => h) (fun H locs hfr hΦ hS => ?_)
                  have hP : mP G b (va_up mi 0 (nI 0)) (va_up ma 0 (upd (alL (ma 0) x2 (clk (ma 0) i x2) cc) (13 * cc + 3) ((gL (ma 0) cc 3) + ((clk (ma 0) cc x2) - (clk (ma 0) i x2))))) H := hΦ
                  have hD : va_D A (mW G b (va_up mi 0 (nI 0)) (va_up ma 0 (upd (alL (ma 0) x2 (clk (ma 0) i x2) cc) (13 * cc + 3) ((gL (ma 0) cc 3) + ((clk (ma 0) cc x2) - (clk (ma 0) i x2)))))) := hD.same rfl
                  have hP : mP G b (va_up mi 0 (nI 0)) (va_up ma 0 (alL (ma 0) x2 (clk (ma 0) i x2) (cc + 1))) H := hP
                  have hD : va_D A (mW G b (va_up mi 0 (nI 0)) (va_up ma 0 (alL (ma 0) x2 (clk (ma 0) i x2) (cc + 1)))) := hD.same rfl
                  refine lv_iload hx hb dX4_align_133 (lv_at hl 4 rfl) ?_
                  have j_7 : W p l e rmX4_align s m [.ref (b 0), .int (nI i), .int x2].toArray below meth c H locs 0 0 Q (F0 m 145 ls [.int (nI ((alD (ma 0) x2 (clk (ma 0) i x2) cc).toNat)), .int (nI (cnt (alD (ma 0) x2 (clk (ma 0) i x2)) cc))]) := by
                    refine x_iaddN hx hb dX4_align_145 ?_
                    refine lv_istore (lv' := [(4, .int (nI ((cnt (alD (ma 0) x2 (clk (ma 0) i x2)) cc) + ((alD (ma 0) x2 (clk (ma 0) i x2) cc).toNat)))), (6, .int ((clk (ma 0) cc x2) - (clk (ma 0) i x2))), (0, .ref (b 0)), (2, .int x2), (3, .int ((clk (ma 0) i x2))), (5, .int (nI cc))]) hx hb dX4_align_146 hl (by decide) rfl (fun ls hl => ?_)
                    refine lv_iinc (v := nI (cc + 1)) (lv' := [(5, .int (nI (cc + 1))), (4, .int (nI ((cnt (alD (ma 0) x2 (clk (ma 0) i x2)) cc) + ((alD (ma 0) x2 (clk (ma 0) i x2) cc).toNat)))), (6, .int ((clk (ma 0) cc x2) - (clk (ma 0) i x2))), (0, .ref (b 0)), (2, .int x2), (3, .int ((clk (ma 0) i x2)))]) hx hb dX4_align_148 hl (k := 5) rfl (nI_incn _) (by decide) rfl (fun ls hl => ?_)
                    refine lv_goto (tgt := 96) hx hb dX4_align_151 (by decide) ?_
                    exact ih_5 (cc + 1) _ _ ls (by omega) (by omega) (hP) (hS) (lv_sub hl [3, 4, 5, 1, 0] rfl)
                  refine lv_iload hx hb dX4_align_135 (lv_at hl 0 rfl) ?_
                  refine lv_if_eq (tgt := 144) hx hb dX4_align_137 (by decide) (fun c_8 => ?_) (fun c_8 => ?_)
                  · refine lv_iconst (v := nI 0) hx hb dX4_align_144 (by decide +kernel) ?_
                    exact W.eq (g2 := F0 m 145 ls [.int (nI ((alD (ma 0) x2 (clk (ma 0) i x2) cc).toNat)), .int (nI (cnt (alD (ma 0) x2 (clk (ma 0) i x2)) cc))]) (congrArg (fun z => F0 m 145 ls (.int z :: [.int (nI (cnt (alD (ma 0) x2 (clk (ma 0) i x2)) cc))])) (congrArg nI (by rw [show alD (ma 0) x2 (clk (ma 0) i x2) cc = false from decide_eq_false (not_not_intro c_8)]; rfl))) j_7
                  · refine lv_iconst (v := nI 1) hx hb dX4_align_140 (by decide +kernel) ?_
                    refine lv_goto (tgt := 145) hx hb dX4_align_141 (by decide) ?_
                    exact W.eq (g2 := F0 m 145 ls [.int (nI ((alD (ma 0) x2 (clk (ma 0) i x2) cc).toNat)), .int (nI (cnt (alD (ma 0) x2 (clk (ma 0) i x2)) cc))]) (congrArg (fun z => F0 m 145 ls (.int z :: [.int (nI (cnt (alD (ma 0) x2 (clk (ma 0) i x2)) cc))])) (congrArg nI (by rw [show alD (ma 0) x2 (clk (ma 0) i x2) cc = true from decide_eq_true c_8]; rfl))) j_7
            exact loop_5 _ 0 _ _ ls (Nat.lt_succ_self _) (Nat.zero_le _) (hP) (hS) (lv_sub hl [1, 3, 4, 5, 0] rfl)
          · refine lv_aload_n hx hb dX4_align_54 rfl (lv_at hl 0 rfl) ?_
            refine lv_iload hx hb dX4_align_55 (lv_at hl 5 rfl) ?_
            refine lv_iconst (v := nI 3) hx hb dX4_align_57 (by decide +kernel) ?_
            refine x_rd (va_runV (As := [.int (nI ss), .int (nI 3)]) (rest := []) hC (c_X4_get hP (by omega) (by omega)) (cwV 2 hts gX4_align_X4_get rfl rfl rfl qdX4_get ⟨Nat.le_of_ble_eq_true rfl, Nat.le_of_ble_eq_true rfl⟩) (x_preV hK (x_recv hK (hP 0 _ rfl) rfl)) rfl rfl hl.1 rfl (lv_room (Nat.le_of_ble_eq_true rfl)) dX4_align_58 ⟨Nat.le_of_ble_eq_true rfl, Nat.le_of_ble_eq_true rfl⟩) ?_
            refine W.eq (g2 := F0 m 61 ls [.int (gL (ma 0) ss 3)]) rfl ?_
            refine lv_aload_n hx hb dX4_align_61 rfl (lv_at hl 0 rfl) ?_
            refine lv_iload hx hb dX4_align_62 (lv_at hl 5 rfl) ?_
            refine lv_iload_n hx hb dX4_align_64 rfl (lv_at hl 2 rfl) ?_
            refine x_rd (va_runV (As := [.int (nI ss), .int x2]) (rest := [.int (gL (ma 0) ss 3)]) hC (c_X4_clockOf hP (by omega)) (cwV 2 hts gX4_align_X4_clockOf rfl rfl rfl qdX4_clockOf ⟨Nat.le_of_ble_eq_true rfl, Nat.le_of_ble_eq_true rfl⟩) (x_preV hK (x_recv hK (hP 0 _ rfl) rfl)) rfl rfl hl.1 rfl (lv_room (Nat.le_of_ble_eq_true rfl)) dX4_align_65 ⟨Nat.le_of_ble_eq_true rfl, Nat.le_of_ble_eq_true rfl⟩) ?_
            refine W.eq (g2 := F0 m 68 ls [.int (clk (ma 0) ss x2), .int (gL (ma 0) ss 3)]) rfl ?_
            refine lv_iadd hx hb dX4_align_68 ?_
            refine lv_iload_n hx hb dX4_align_69 rfl (lv_at hl 3 rfl) ?_
            refine lv_isub hx hb dX4_align_70 ?_
            refine W.eq (g2 := F0 m 71 ls [.int (alC (ma 0) ss x2 (clk (ma 0) i x2))]) (congrArg (fun z => F0 m 71 ls (.int z :: [])) (rfl)) ?_
            refine lv_ldc (v := (-100000)) hx hb hown k_c56 dX4_align_71 ?_
            refine lv_ldc (v := nI 100000) hx hb hown k_c57 dX4_align_73 ?_
            refine x_rd (va_runS (As := [.int (alC (ma 0) ss x2 (clk (ma 0) i x2)), .int ((-100000)), .int (nI 100000)]) (rest := []) hC (c_X4_isIn) (cwS 3 hts gX4_align_X4_isIn rfl rfl rfl qdX4_isIn ⟨Nat.le_of_ble_eq_true rfl, Nat.le_of_ble_eq_true rfl⟩) (x_preS hK) rfl rfl hl.1 rfl (lv_room (Nat.le_of_ble_eq_true rfl)) dX4_align_75 ⟨Nat.le_of_ble_eq_true rfl, Nat.le_of_ble_eq_true rfl⟩) ?_
            refine W.eq (g2 := F0 m 78 ls [.int (bI (inR (-100000) (nI 100000) (alC (ma 0) ss x2 (clk (ma 0) i x2))))]) rfl ?_
            refine x_if_neB (tgt := 87) hx hb dX4_align_78 (by decide) (fun c_9 => ?_) (fun c_9 => ?_)
            · refine lv_iinc (v := nI (ss + 1)) (lv' := [(5, .int (nI (ss + 1))), (0, .ref (b 0)), (1, .int (nI i)), (2, .int x2), (3, .int ((clk (ma 0) i x2))), (4, .int (nI 0))]) hx hb dX4_align_87 hl (k := 5) rfl (nI_incn _) (by decide) rfl (fun ls hl => ?_)
              refine lv_goto (tgt := 45) hx hb dX4_align_90 (by decide) ?_
              exact ih_3 (ss + 1) ls (by omega) (by omega) (by show (alB (ma 0) x2 (clk (ma 0) i x2) ss && _) = true; rw [halb, Bool.true_and]; exact c_9) (lv_sub hl [1, 2, 3, 4, 5, 0] rfl)
            · refine lv_aload_n hx hb dX4_align_81 rfl (lv_at hl 0 rfl) ?_
              refine lv_iconst (v := nI 3) hx hb dX4_align_82 (by decide +kernel) ?_
              refine x_runi (va_runV (As := [.int (nI 3)]) (rest := []) hC (c_X4_fail hP hD) (cwV 1 hts gX4_align_X4_fail rfl rfl rfl qdX4_fail ⟨Nat.le_of_ble_eq_true rfl, Nat.le_of_ble_eq_true rfl⟩) (x_preV hK (x_recv hK (hP 0 _ rfl) rfl)) rfl rfl hl.1 rfl (lv_room (Nat.le_of_ble_eq_true rfl)) dX4_align_83 ⟨Nat.le_of_ble_eq_true rfl, Nat.le_of_ble_eq_true rfl⟩) hS (fun _ h => h) (fun r_10 H locs hfr hΦ hS => ?_)
              obtain ⟨er_10, hP⟩ := hΦ
              rw [er_10]
              have hP : mP G b (va_up mi 0 (nI 3)) ma H := hP
              have hD : va_D A (mW G b (va_up mi 0 (nI 3)) ma) := hD.same rfl
              have hkk9 : k3 (vS n (nI i)) (isT x2) (alB (ma 0) x2 (clk (ma 0) (nI i).toNatClampNeg x2) n) = 3 := by simp only [k3, c_1, c_2, nI_clamp (show i < 2 ^ 31 by omega), alB_no c_9 n (by omega)] <;> rfl
              have hkn9 : ¬ k3 (vS n (nI i)) (isT x2) (alB (ma 0) x2 (clk (ma 0) (nI i).toNatClampNeg x2) n) = 0 := by rw [hkk9]; decide
              exact x_iret hQ hx hb hr rfl hlk hS.2.2 dX4_align_86 ⟨hS.fr, mQ_mk (k0 := 3) hkk9 hP rfl (hmn) (hmh) (by rw [if_neg hkn9] <;> rfl) (rfl) (fun z => absurd z (by decide))⟩
      exact loop_3 _ 0 ls (Nat.lt_succ_self _) (Nat.zero_le _) (rfl) (lv_sub hl [3, 4, 5, 2, 1, 0] rfl)
    · refine lv_aload_n hx hb dX4_align_26 rfl (lv_at hl 0 rfl) ?_
      refine lv_iconst (v := nI 2) hx hb dX4_align_27 (by decide +kernel) ?_
      refine x_runi (va_runV (As := [.int (nI 2)]) (rest := []) hC (c_X4_fail hP hD) (cwV 1 hts gX4_align_X4_fail rfl rfl rfl qdX4_fail ⟨Nat.le_of_ble_eq_true rfl, Nat.le_of_ble_eq_true rfl⟩) (x_preV hK (x_recv hK (hP 0 _ rfl) rfl)) rfl rfl hl.1 rfl (lv_room (Nat.le_of_ble_eq_true rfl)) dX4_align_28 ⟨Nat.le_of_ble_eq_true rfl, Nat.le_of_ble_eq_true rfl⟩) hS (fun _ h => h) (fun r_11 H locs hfr hΦ hS => ?_)
      obtain ⟨er_11, hP⟩ := hΦ
      rw [er_11]
      have hP : mP G b (va_up mi 0 (nI 2)) ma H := hP
      have hD : va_D A (mW G b (va_up mi 0 (nI 2)) ma) := hD.same rfl
      have hkk9 : k3 (vS n (nI i)) (isT x2) (alB (ma 0) x2 (clk (ma 0) (nI i).toNatClampNeg x2) n) = 2 := by simp only [k3, c_1, c_2] <;> rfl
      have hkn9 : ¬ k3 (vS n (nI i)) (isT x2) (alB (ma 0) x2 (clk (ma 0) (nI i).toNatClampNeg x2) n) = 0 := by rw [hkk9]; decide
      exact x_iret hQ hx hb hr rfl hlk hS.2.2 dX4_align_31 ⟨hS.fr, mQ_mk (k0 := 2) hkk9 hP rfl (hmn) (hmh) (by rw [if_neg hkn9] <;> rfl) (rfl) (fun z => absurd z (by decide))⟩
  · refine lv_aload_n hx hb dX4_align_13 rfl (lv_at hl 0 rfl) ?_
    refine lv_iconst (v := nI 1) hx hb dX4_align_14 (by decide +kernel) ?_
    refine x_runi (va_runV (As := [.int (nI 1)]) (rest := []) hC (c_X4_fail hP hD) (cwV 1 hts gX4_align_X4_fail rfl rfl rfl qdX4_fail ⟨Nat.le_of_ble_eq_true rfl, Nat.le_of_ble_eq_true rfl⟩) (x_preV hK (x_recv hK (hP 0 _ rfl) rfl)) rfl rfl hl.1 rfl (lv_room (Nat.le_of_ble_eq_true rfl)) dX4_align_15 ⟨Nat.le_of_ble_eq_true rfl, Nat.le_of_ble_eq_true rfl⟩) hS (fun _ h => h) (fun r_12 H locs hfr hΦ hS => ?_)
    obtain ⟨er_12, hP⟩ := hΦ
    rw [er_12]
    have hP : mP G b (va_up mi 0 (nI 1)) ma H := hP
    have hD : va_D A (mW G b (va_up mi 0 (nI 1)) ma) := hD.same rfl
    have hkk9 : k3 (vS n x1) (isT x2) (alB (ma 0) x2 (clk (ma 0) x1.toNatClampNeg x2) n) = 1 := by simp only [k3, c_1] <;> rfl
    have hkn9 : ¬ k3 (vS n x1) (isT x2) (alB (ma 0) x2 (clk (ma 0) x1.toNatClampNeg x2) n) = 0 := by rw [hkk9]; decide
    exact x_iret hQ hx hb hr rfl hlk hS.2.2 dX4_align_18 ⟨hS.fr, mQ_mk (k0 := 1) hkk9 hP rfl (hmn) (hmh) (by rw [if_neg hkn9] <;> rfl) (rfl) (fun z => absurd z (by decide))⟩
/-- one more station -/
def Lbu (L : Nat → Int32) (n : Nat) (x y z : Int32) : Nat → Int32 := upd (upd (upd L (13 * n + 0) x) (13 * n + 1) y) (13 * n + 2) z
abbrev rmX4_build : Room := { frames := 1, cells := 0, slots := 0, locals := 23 }
theorem qdX4_build : yX4_build.cls = RX4 ∧ yX4_build.cls ≠ "java/lang/invoke/MethodHandle" ∧ yX4_build.cls ≠ "java/lang/invoke/VarHandle" ∧ (parseMethodDescriptor yX4_build.desc).map (fun d => d.parameters.length) = some 3 := by decide +kernel
set_option maxHeartbeats 4000000 in
set_option maxRecDepth 100000 in
theorem c_X4_build {l : Launch} {G : gT} {A : Nat → Prop} {b : Nat → Nat} {mi : Nat → Int32} {ma : Nat → Nat → Int32} {H0 : Heap} {n hn : Nat} {x1 x2 x3 : Int32} (hP : mP G b mi ma H0) (hD : va_D A (mW G b mi ma)) (hmn : mi 1 = nI n) (hmh : mi 2 = nI hn) (hg : OK n hn (ma 0) (ma 1)) : WrI G l yX4_build wsX4_build rmX4_build [.ref (b 0), .int x1, .int x2, .int x3] H0 A (fun r H1 => mQ G b (if k2 (inR (nI 0) (nI 999) x1 && inR (-600) (nI 600) x2 && inR (-99) (nI 99) x3) (decide (n < 12) && frB (ma 0) x1 n) = 0 then n + 1 else n) hn (if k2 (inR (nI 0) (nI 999) x1 && inR (-600) (nI 600) x2 && inR (-99) (nI 99) x3) (decide (n < 12) && frB (ma 0) x1 n) = 0 then Lbu (ma 0) n x1 x2 x3 else (ma 0)) (ma 1) (k2 (inR (nI 0) (nI 999) x1 && inR (-600) (nI 600) x2 && inR (-99) (nI 99) x3) (decide (n < 12) && frB (ma 0) x1 n)) (nI n) r H1) := by
  refine x_head (bytes := cX4_build) (maxL := 6) (ret := (some .int)) (by decide) rfl (Nat.le_of_ble_eq_true rfl) ?_
  intro p e s m below meth c ls hx hb hml hown hts hr hlk hnm hK hs0 hl Q hQ
  have hl : lv_has ls 6 [(0, .ref (b 0)), (1, .int x1), (2, .int x2), (3, .int x3)] := hl
  have hC : CallFix p m c cX4_build 6 s [.ref (b 0), .int x1, .int x2, .int x3].toArray wsX4_build RX4 := ⟨hx, hb, hml, hown, hts⟩
  have k_f25 := hts (.fieldLink RX4 25 "SundogLineModel" "thrown" "I") (by decide +kernel)
  have in_X4 : ∀ w ∈ u_ws RX4 TX4 11, w ∈ wsX4_build := by decide +kernel
  have k_f34 := hts (.fieldLink RX4 34 "SundogLineModel" "stations" "I") (by decide +kernel)
  have hS : va_S A H0 H0 [] := va_S.rf
  have hn12 := hg.n
  have hh16 := hg.hn
  refine lv_aload_n hx hb dX4_build_0 rfl (lv_at hl 0 rfl) ?_
  refine lv_iconst (v := nI 0) hx hb dX4_build_1 (by decide +kernel) ?_
  refine va_put (D := gD G) (ci := 4) (v := .int (nI 0)) (ty := .int) (C := RX4) (T := TX4) (N := 11) hx hb hts in_X4 tyX4 tyX4_ok nmX4 hown hK hP hD hS 0 rfl rfl 0 (by decide) k_f25 (fun _ h9 => h9) rfl (by decide +kernel) rfl rfl (Nat.le_of_ble_eq_true rfl) dX4_build_2 (fun H locs hP hD hS => ?_)
  have hP : mP G b (va_up mi 0 (nI 0)) ma H := hP
  have hD : va_D A (mW G b (va_up mi 0 (nI 0)) ma) := hD
  refine lv_iload_n hx hb dX4_build_5 rfl (lv_at hl 1 rfl) ?_
  refine lv_iconst (v := nI 0) hx hb dX4_build_6 (by decide +kernel) ?_
  refine lv_sipush (v := nI 999) hx hb dX4_build_7 (by decide +kernel) ?_
  refine x_rd (va_runS (As := [.int x1, .int (nI 0), .int (nI 999)]) (rest := []) hC (c_X4_isIn) (cwS 3 hts gX4_build_X4_isIn rfl rfl rfl qdX4_isIn ⟨Nat.le_of_ble_eq_true rfl, Nat.le_of_ble_eq_true rfl⟩) (x_preS hK) rfl rfl hl.1 rfl (lv_room (Nat.le_of_ble_eq_true rfl)) dX4_build_10 ⟨Nat.le_of_ble_eq_true rfl, Nat.le_of_ble_eq_true rfl⟩) ?_
  refine W.eq (g2 := F0 m 13 ls [.int (bI (inR (nI 0) (nI 999) x1))]) rfl ?_
  refine x_if_eqB (tgt := 40) hx hb dX4_build_13 (by decide) (fun c_1 => ?_) (fun c_1 => ?_)
  · refine lv_aload_n hx hb dX4_build_40 rfl (lv_at hl 0 rfl) ?_
    refine lv_iconst (v := nI 1) hx hb dX4_build_41 (by decide +kernel) ?_
    refine x_runi (va_runV (As := [.int (nI 1)]) (rest := []) hC (c_X4_fail hP hD) (cwV 1 hts gX4_build_X4_fail rfl rfl rfl qdX4_fail ⟨Nat.le_of_ble_eq_true rfl, Nat.le_of_ble_eq_true rfl⟩) (x_preV hK (x_recv hK (hP 0 _ rfl) rfl)) rfl rfl hl.1 rfl (lv_room (Nat.le_of_ble_eq_true rfl)) dX4_build_42 ⟨Nat.le_of_ble_eq_true rfl, Nat.le_of_ble_eq_true rfl⟩) hS (fun _ h => h) (fun r_2 H locs hfr hΦ hS => ?_)
    obtain ⟨er_2, hP⟩ := hΦ
    rw [er_2]
    have hP : mP G b (va_up mi 0 (nI 1)) ma H := hP
    have hD : va_D A (mW G b (va_up mi 0 (nI 1)) ma) := hD.same rfl
    have hkk9 : k2 (inR (nI 0) (nI 999) x1 && inR (-600) (nI 600) x2 && inR (-99) (nI 99) x3) (decide (n < 12) && frB (ma 0) x1 n) = 1 := by simp only [k2, Bool.and_true, Bool.true_and, Bool.and_false, Bool.false_and, c_1] <;> rfl
    have hkn9 : ¬ k2 (inR (nI 0) (nI 999) x1 && inR (-600) (nI 600) x2 && inR (-99) (nI 99) x3) (decide (n < 12) && frB (ma 0) x1 n) = 0 := by rw [hkk9]; decide
    exact x_iret hQ hx hb hr rfl hlk hS.2.2 dX4_build_45 ⟨hS.fr, mQ_mk (k0 := 1) hkk9 hP rfl (by rw [if_neg hkn9]; exact hmn) (hmh) (by rw [if_neg hkn9] <;> rfl) (rfl) (fun z => absurd z (by decide))⟩
  · refine lv_iload_n hx hb dX4_build_16 rfl (lv_at hl 2 rfl) ?_
    refine lv_sipush (v := (-600)) hx hb dX4_build_17 (by decide +kernel) ?_
    refine lv_sipush (v := nI 600) hx hb dX4_build_20 (by decide +kernel) ?_
    refine x_rd (va_runS (As := [.int x2, .int ((-600)), .int (nI 600)]) (rest := []) hC (c_X4_isIn) (cwS 3 hts gX4_build_X4_isIn rfl rfl rfl qdX4_isIn ⟨Nat.le_of_ble_eq_true rfl, Nat.le_of_ble_eq_true rfl⟩) (x_preS hK) rfl rfl hl.1 rfl (lv_room (Nat.le_of_ble_eq_true rfl)) dX4_build_23 ⟨Nat.le_of_ble_eq_true rfl, Nat.le_of_ble_eq_true rfl⟩) ?_
    refine W.eq (g2 := F0 m 26 ls [.int (bI (inR (-600) (nI 600) x2))]) rfl ?_
    refine x_if_eqB (tgt := 40) hx hb dX4_build_26 (by decide) (fun c_3 => ?_) (fun c_3 => ?_)
    · refine lv_aload_n hx hb dX4_build_40 rfl (lv_at hl 0 rfl) ?_
      refine lv_iconst (v := nI 1) hx hb dX4_build_41 (by decide +kernel) ?_
      refine x_runi (va_runV (As := [.int (nI 1)]) (rest := []) hC (c_X4_fail hP hD) (cwV 1 hts gX4_build_X4_fail rfl rfl rfl qdX4_fail ⟨Nat.le_of_ble_eq_true rfl, Nat.le_of_ble_eq_true rfl⟩) (x_preV hK (x_recv hK (hP 0 _ rfl) rfl)) rfl rfl hl.1 rfl (lv_room (Nat.le_of_ble_eq_true rfl)) dX4_build_42 ⟨Nat.le_of_ble_eq_true rfl, Nat.le_of_ble_eq_true rfl⟩) hS (fun _ h => h) (fun r_4 H locs hfr hΦ hS => ?_)
      obtain ⟨er_4, hP⟩ := hΦ
      rw [er_4]
      have hP : mP G b (va_up mi 0 (nI 1)) ma H := hP
      have hD : va_D A (mW G b (va_up mi 0 (nI 1)) ma) := hD.same rfl
      have hkk9 : k2 (inR (nI 0) (nI 999) x1 && inR (-600) (nI 600) x2 && inR (-99) (nI 99) x3) (decide (n < 12) && frB (ma 0) x1 n) = 1 := by simp only [k2, Bool.and_true, Bool.true_and, Bool.and_false, Bool.false_and, c_1, c_3] <;> rfl
      have hkn9 : ¬ k2 (inR (nI 0) (nI 999) x1 && inR (-600) (nI 600) x2 && inR (-99) (nI 99) x3) (decide (n < 12) && frB (ma 0) x1 n) = 0 := by rw [hkk9]; decide
      exact x_iret hQ hx hb hr rfl hlk hS.2.2 dX4_build_45 ⟨hS.fr, mQ_mk (k0 := 1) hkk9 hP rfl (by rw [if_neg hkn9]; exact hmn) (hmh) (by rw [if_neg hkn9] <;> rfl) (rfl) (fun z => absurd z (by decide))⟩
    · refine lv_iload_n hx hb dX4_build_29 rfl (lv_at hl 3 rfl) ?_
      refine lv_bipush (v := (-99)) hx hb dX4_build_30 (by decide +kernel) ?_
      refine lv_bipush (v := nI 99) hx hb dX4_build_32 (by decide +kernel) ?_
      refine x_rd (va_runS (As := [.int x3, .int ((-99)), .int (nI 99)]) (rest := []) hC (c_X4_isIn) (cwS 3 hts gX4_build_X4_isIn rfl rfl rfl qdX4_isIn ⟨Nat.le_of_ble_eq_true rfl, Nat.le_of_ble_eq_true rfl⟩) (x_preS hK) rfl rfl hl.1 rfl (lv_room (Nat.le_of_ble_eq_true rfl)) dX4_build_34 ⟨Nat.le_of_ble_eq_true rfl, Nat.le_of_ble_eq_true rfl⟩) ?_
      refine W.eq (g2 := F0 m 37 ls [.int (bI (inR (-99) (nI 99) x3))]) rfl ?_
      refine x_if_neB (tgt := 46) hx hb dX4_build_37 (by decide) (fun c_5 => ?_) (fun c_5 => ?_)
      · have j_6 : W p l e rmX4_build s m [.ref (b 0), .int x1, .int x2, .int x3].toArray below meth c H locs 0 0 Q (F0 m 60 ls [.int (bI (decide (n < 12)))]) := by
          refine lv_istore (lv' := [(4, .int (bI (decide (n < 12)))), (0, .ref (b 0)), (1, .int x1), (2, .int x2), (3, .int x3)]) hx hb dX4_build_60 hl (by decide) rfl (fun ls hl => ?_)
          refine lv_iconst (v := nI 0) hx hb dX4_build_62 (by decide +kernel) ?_
          refine lv_istore (lv' := [(5, .int (nI 0)), (4, .int (bI (decide (n < 12)))), (0, .ref (b 0)), (1, .int x1), (2, .int x2), (3, .int x3)]) hx hb dX4_build_63 hl (by decide) rfl (fun ls hl => ?_)
          have loop_7 : ∀ (fu : Nat) (kk : Nat) (B : Bool)  (ls : Array Slot), n - kk < fu → (kk ≤ n) → (B = (decide (n < 12) && frB (ma 0) x1 kk)) → lv_has ls 6 [(0, .ref (b 0)), (1, .int x1), (2, .int x2), (3, .int x3), (4, .int (bI B)), (5, .int (nI kk))] → W p l e rmX4_build s m [.ref (b 0), .int x1, .int x2, .int x3].toArray below meth c H locs 0 0 Q (F0 m 65 ls []) := by
            intro fu
            induction fu with
            | zero => intro kk B ls hms hkk hB hl; exact absurd hms (Nat.not_lt_zero _)
            | succ fu ih_7 =>
              intro kk B ls hms hkk hB hl
              refine lv_iload hx hb dX4_build_65 (lv_at hl 5 rfl) ?_
              refine lv_aload_n hx hb dX4_build_67 rfl (lv_at hl 0 rfl) ?_
              refine x_get (T := TX4) (N := 11) (v := .int (nI n)) hx hb hts in_X4 hown hK (hP 0 _ rfl) rfl 1 (by decide) k_f34 (fun _ h9 => h9) (congrArg (fun z => some (Value.int z)) hmn) dX4_build_68 ?_
              refine x_icmp_ge (tgt := 103) hx hb (by omega) (by omega) dX4_build_71 (by decide) (fun c_8 => ?_) (fun c_8 => ?_)
              · have hkn : kk = n := by omega
                rw [hkn] at hB
                refine lv_iload hx hb dX4_build_103 (lv_at hl 4 rfl) ?_
                refine x_if_neB (tgt := 114) hx hb dX4_build_105 (by decide) (fun c_9 => ?_) (fun c_9 => ?_)
                · have hn11 : n < 12 := by have q := c_9; rw [hB, Bool.and_eq_true] at q; exact of_decide_eq_true q.1
                  refine lv_aload_n hx hb dX4_build_114 rfl (lv_at hl 0 rfl) ?_
                  refine lv_aload_n hx hb dX4_build_115 rfl (lv_at hl 0 rfl) ?_
                  refine x_get (T := TX4) (N := 11) (v := .int (nI n)) hx hb hts in_X4 hown hK (hP 0 _ rfl) rfl 1 (by decide) k_f34 (fun _ h9 => h9) (congrArg (fun z => some (Value.int z)) hmn) dX4_build_116 ?_
                  refine lv_iconst (v := nI 0) hx hb dX4_build_119 (by decide +kernel) ?_
                  refine lv_iload_n hx hb dX4_build_120 rfl (lv_at hl 1 rfl) ?_
                  refine x_runv (va_runV (As := [.int (nI n), .int (nI 0), .int x1]) (rest := []) hC (c_X4_set hP hD (by omega) (by omega)) (cwV 3 hts gX4_build_X4_set rfl rfl rfl qdX4_set ⟨Nat.le_of_ble_eq_true rfl, Nat.le_of_ble_eq_true rfl⟩) (x_preV hK (x_recv hK (hP 0 _ rfl) rfl)) rfl rfl hl.1 rfl (lv_room (Nat.le_of_ble_eq_true rfl)) dX4_build_121 ⟨Nat.le_of_ble_eq_true rfl, Nat.le_of_ble_eq_true rfl⟩) hS (fun _ h => h) (fun H locs hfr hΦ hS => ?_)
                  have hP : mP G b (va_up mi 0 (nI 0)) (va_up ma 0 (upd (ma 0) (13 * n + 0) x1)) H := hΦ
                  have hD : va_D A (mW G b (va_up mi 0 (nI 0)) (va_up ma 0 (upd (ma 0) (13 * n + 0) x1))) := hD.same rfl
                  refine lv_aload_n hx hb dX4_build_124 rfl (lv_at hl 0 rfl) ?_
                  refine lv_aload_n hx hb dX4_build_125 rfl (lv_at hl 0 rfl) ?_
                  refine x_get (T := TX4) (N := 11) (v := .int (nI n)) hx hb hts in_X4 hown hK (hP 0 _ rfl) rfl 1 (by decide) k_f34 (fun _ h9 => h9) (congrArg (fun z => some (Value.int z)) hmn) dX4_build_126 ?_
                  refine lv_iconst (v := nI 1) hx hb dX4_build_129 (by decide +kernel) ?_
                  refine lv_iload_n hx hb dX4_build_130 rfl (lv_at hl 2 rfl) ?_
                  refine x_runv (va_runV (As := [.int (nI n), .int (nI 1), .int x2]) (rest := []) hC (c_X4_set hP hD (by omega) (by omega)) (cwV 3 hts gX4_build_X4_set rfl rfl rfl qdX4_set ⟨Nat.le_of_ble_eq_true rfl, Nat.le_of_ble_eq_true rfl⟩) (x_preV hK (x_recv hK (hP 0 _ rfl) rfl)) rfl rfl hl.1 rfl (lv_room (Nat.le_of_ble_eq_true rfl)) dX4_build_131 ⟨Nat.le_of_ble_eq_true rfl, Nat.le_of_ble_eq_true rfl⟩) hS (fun _ h => h) (fun H locs hfr hΦ hS => ?_)
                  have hP : mP G b (va_up mi 0 (nI 0)) (va_up ma 0 (upd (upd (ma 0) (13 * n + 0) x1) (13 * n + 1) x2)) H := hΦ
                  have hD : va_D A (mW G b (va_up mi 0 (nI 0)) (va_up ma 0 (upd (upd (ma 0) (13 * n + 0) x1) (13 * n + 1) x2))) := hD.same rfl
                  refine lv_aload_n hx hb dX4_build_134 rfl (lv_at hl 0 rfl) ?_
                  refine lv_aload_n hx hb dX4_build_135 rfl (lv_at hl 0 rfl) ?_
                  refine x_get (T := TX4) (N := 11) (v := .int (nI n)) hx hb hts in_X4 hown hK (hP 0 _ rfl) rfl 1 (by decide) k_f34 (fun _ h9 => h9) (congrArg (fun z => some (Value.int z)) hmn) dX4_build_136 ?_
                  refine lv_iconst (v := nI 2) hx hb dX4_build_139 (by decide +kernel) ?_
                  refine lv_iload_n hx hb dX4_build_140 rfl (lv_at hl 3 rfl) ?_
                  refine x_runv (va_runV (As := [.int (nI n), .int (nI 2), .int x3]) (rest := []) hC (c_X4_set hP hD (by omega) (by omega)) (cwV 3 hts gX4_build_X4_set rfl rfl rfl qdX4_set ⟨Nat.le_of_ble_eq_true rfl, Nat.le_of_ble_eq_true rfl⟩) (x_preV hK (x_recv hK (hP 0 _ rfl) rfl)) rfl rfl hl.1 rfl (lv_room (Nat.le_of_ble_eq_true rfl)) dX4_build_141 ⟨Nat.le_of_ble_eq_true rfl, Nat.le_of_ble_eq_true rfl⟩) hS (fun _ h => h) (fun H locs hfr hΦ hS => ?_)
                  have hP : mP G b (va_up mi 0 (nI 0)) (va_up ma 0 (upd (upd (upd (ma 0) (13 * n + 0) x1) (13 * n + 1) x2) (13 * n + 2) x3)) H := hΦ
                  have hD : va_D A (mW G b (va_up mi 0 (nI 0)) (va_up ma 0 (upd (upd (upd (ma 0) (13 * n + 0) x1) (13 * n + 1) x2) (13 * n + 2) x3))) := hD.same rfl
                  refine lv_aload_n hx hb dX4_build_144 rfl (lv_at hl 0 rfl) ?_
                  refine lv_dup hx hb dX4_build_145 rfl ?_
                  refine x_get (T := TX4) (N := 11) (v := .int (nI n)) hx hb hts in_X4 hown hK (hP 0 _ rfl) rfl 1 (by decide) k_f34 (fun _ h9 => h9) (congrArg (fun z => some (Value.int z)) hmn) dX4_build_146 ?_
                  refine lv_iconst (v := nI 1) hx hb dX4_build_149 (by decide +kernel) ?_
                  refine x_iaddN hx hb dX4_build_150 ?_
                  refine va_put (D := gD G) (ci := 4) (v := .int (nI (n + 1))) (ty := .int) (C := RX4) (T := TX4) (N := 11) hx hb hts in_X4 tyX4 tyX4_ok nmX4 hown hK hP hD hS 0 rfl rfl 1 (by decide) k_f34 (fun _ h9 => h9) rfl (by decide +kernel) rfl rfl (Nat.le_of_ble_eq_true rfl) dX4_build_151 (fun H locs hP hD hS => ?_)
                  have hP : mP G b (va_up (va_up mi 0 (nI 0)) 1 (nI (n + 1))) (va_up ma 0 (upd (upd (upd (ma 0) (13 * n + 0) x1) (13 * n + 1) x2) (13 * n + 2) x3)) H := hP
                  have hD : va_D A (mW G b (va_up (va_up mi 0 (nI 0)) 1 (nI (n + 1))) (va_up ma 0 (upd (upd (upd (ma 0) (13 * n + 0) x1) (13 * n + 1) x2) (13 * n + 2) x3))) := hD
                  refine lv_aload_n hx hb dX4_build_154 rfl (lv_at hl 0 rfl) ?_
                  refine x_get (T := TX4) (N := 11) (v := .int (nI (n + 1))) hx hb hts in_X4 hown hK (hP 0 _ rfl) rfl 1 (by decide) k_f34 (fun _ h9 => h9) (rfl) dX4_build_155 ?_
                  refine lv_iconst (v := nI 1) hx hb dX4_build_158 (by decide +kernel) ?_
                  refine x_isubN hx hb dX4_build_159 (by omega) ?_
                  have hkk9 : k2 (inR (nI 0) (nI 999) x1 && inR (-600) (nI 600) x2 && inR (-99) (nI 99) x3) (decide (n < 12) && frB (ma 0) x1 n) = 0 := by simp only [k2, Bool.and_true, Bool.true_and, Bool.and_false, Bool.false_and, c_1, c_3, c_5, ← hB, c_9] <;> rfl
                  exact x_iret hQ hx hb hr rfl hlk hS.2.2 dX4_build_160 ⟨hS.fr, mQ_mk (k0 := 0) hkk9 hP rfl (by rw [if_pos hkk9] <;> rfl) (hmh) (by rw [if_pos hkk9] <;> rfl) (rfl) (fun _ => rfl)⟩
                · refine lv_aload_n hx hb dX4_build_108 rfl (lv_at hl 0 rfl) ?_
                  refine lv_iconst (v := nI 2) hx hb dX4_build_109 (by decide +kernel) ?_
                  refine x_runi (va_runV (As := [.int (nI 2)]) (rest := []) hC (c_X4_fail hP hD) (cwV 1 hts gX4_build_X4_fail rfl rfl rfl qdX4_fail ⟨Nat.le_of_ble_eq_true rfl, Nat.le_of_ble_eq_true rfl⟩) (x_preV hK (x_recv hK (hP 0 _ rfl) rfl)) rfl rfl hl.1 rfl (lv_room (Nat.le_of_ble_eq_true rfl)) dX4_build_110 ⟨Nat.le_of_ble_eq_true rfl, Nat.le_of_ble_eq_true rfl⟩) hS (fun _ h => h) (fun r_10 H locs hfr hΦ hS => ?_)
                  obtain ⟨er_10, hP⟩ := hΦ
                  rw [er_10]
                  have hP : mP G b (va_up mi 0 (nI 2)) ma H := hP
                  have hD : va_D A (mW G b (va_up mi 0 (nI 2)) ma) := hD.same rfl
                  have hkk9 : k2 (inR (nI 0) (nI 999) x1 && inR (-600) (nI 600) x2 && inR (-99) (nI 99) x3) (decide (n < 12) && frB (ma 0) x1 n) = 2 := by simp only [k2, Bool.and_true, Bool.true_and, Bool.and_false, Bool.false_and, c_1, c_3, c_5, ← hB, c_9] <;> rfl
                  have hkn9 : ¬ k2 (inR (nI 0) (nI 999) x1 && inR (-600) (nI 600) x2 && inR (-99) (nI 99) x3) (decide (n < 12) && frB (ma 0) x1 n) = 0 := by rw [hkk9]; decide
                  exact x_iret hQ hx hb hr rfl hlk hS.2.2 dX4_build_113 ⟨hS.fr, mQ_mk (k0 := 2) hkk9 hP rfl (by rw [if_neg hkn9]; exact hmn) (hmh) (by rw [if_neg hkn9] <;> rfl) (rfl) (fun z => absurd z (by decide))⟩
              · have j_11 : W p l e rmX4_build s m [.ref (b 0), .int x1, .int x2, .int x3].toArray below meth c H locs 0 0 Q (F0 m 95 ls [.int (bI (B && !decide (gL (ma 0) kk 0 = x1)))]) := by
                  refine lv_istore (lv' := [(4, .int (bI (B && !decide (gL (ma 0) kk 0 = x1)))), (0, .ref (b 0)), (1, .int x1), (2, .int x2), (3, .int x3), (5, .int (nI kk))]) hx hb dX4_build_95 hl (by decide) rfl (fun ls hl => ?_)
                  refine lv_iinc (v := nI (kk + 1)) (lv' := [(5, .int (nI (kk + 1))), (4, .int (bI (B && !decide (gL (ma 0) kk 0 = x1)))), (0, .ref (b 0)), (1, .int x1), (2, .int x2), (3, .int x3)]) hx hb dX4_build_97 hl (k := 5) rfl (nI_incn _) (by decide) rfl (fun ls hl => ?_)
                  refine lv_goto (tgt := 65) hx hb dX4_build_100 (by decide) ?_
                  exact ih_7 (kk + 1) (B && !decide (gL (ma 0) kk 0 = x1)) ls (by omega) (by omega) (by rw [hB]; simp only [frB, Bool.and_assoc]) (lv_sub hl [2, 3, 4, 5, 1, 0] rfl)
                refine lv_iload hx hb dX4_build_74 (lv_at hl 4 rfl) ?_
                refine x_if_eqB (tgt := 94) hx hb dX4_build_76 (by decide) (fun c_12 => ?_) (fun c_12 => ?_)
                · refine lv_iconst (v := nI 0) hx hb dX4_build_94 (by decide +kernel) ?_
                  exact W.eq (g2 := F0 m 95 ls [.int (bI (B && !decide (gL (ma 0) kk 0 = x1)))]) (congrArg (fun z => F0 m 95 ls (.int z :: [])) (bI_z (by rw [c_12]; rfl))) j_11
                · refine lv_aload_n hx hb dX4_build_79 rfl (lv_at hl 0 rfl) ?_
                  refine lv_iload hx hb dX4_build_80 (lv_at hl 5 rfl) ?_
                  refine lv_iconst (v := nI 0) hx hb dX4_build_82 (by decide +kernel) ?_
                  refine x_rd (va_runV (As := [.int (nI kk), .int (nI 0)]) (rest := []) hC (c_X4_get hP (by omega) (by omega)) (cwV 2 hts gX4_build_X4_get rfl rfl rfl qdX4_get ⟨Nat.le_of_ble_eq_true rfl, Nat.le_of_ble_eq_true rfl⟩) (x_preV hK (x_recv hK (hP 0 _ rfl) rfl)) rfl rfl hl.1 rfl (lv_room (Nat.le_of_ble_eq_true rfl)) dX4_build_83 ⟨Nat.le_of_ble_eq_true rfl, Nat.le_of_ble_eq_true rfl⟩) ?_
                  refine W.eq (g2 := F0 m 86 ls [.int (gL (ma 0) kk 0)]) rfl ?_
                  refine lv_iload_n hx hb dX4_build_86 rfl (lv_at hl 1 rfl) ?_
                  refine lv_icmp_eq (tgt := 94) hx hb dX4_build_87 (by decide) (fun c_13 => ?_) (fun c_13 => ?_)
                  · refine lv_iconst (v := nI 0) hx hb dX4_build_94 (by decide +kernel) ?_
                    exact W.eq (g2 := F0 m 95 ls [.int (bI (B && !decide (gL (ma 0) kk 0 = x1)))]) (congrArg (fun z => F0 m 95 ls (.int z :: [])) (bI_z (by rw [c_12, decide_eq_true c_13]; rfl))) j_11
                  · refine lv_iconst (v := nI 1) hx hb dX4_build_90 (by decide +kernel) ?_
                    refine lv_goto (tgt := 95) hx hb dX4_build_91 (by decide) ?_
                    exact W.eq (g2 := F0 m 95 ls [.int (bI (B && !decide (gL (ma 0) kk 0 = x1)))]) (congrArg (fun z => F0 m 95 ls (.int z :: [])) (bI_o (by rw [c_12, decide_eq_false c_13]; rfl))) j_11
          exact loop_7 _ 0 (decide (n < 12)) ls (Nat.lt_succ_self _) (Nat.zero_le _) (by rw [frB, Bool.and_true]) (lv_sub hl [2, 3, 4, 5, 1, 0] rfl)
        refine lv_aload_n hx hb dX4_build_46 rfl (lv_at hl 0 rfl) ?_
        refine x_get (T := TX4) (N := 11) (v := .int (nI n)) hx hb hts in_X4 hown hK (hP 0 _ rfl) rfl 1 (by decide) k_f34 (fun _ h9 => h9) (congrArg (fun z => some (Value.int z)) hmn) dX4_build_47 ?_
        refine lv_bipush (v := nI 12) hx hb dX4_build_50 (by decide +kernel) ?_
        refine x_icmp_ge (tgt := 59) hx hb (by omega) (by omega) dX4_build_52 (by decide) (fun c_14 => ?_) (fun c_14 => ?_)
        · refine lv_iconst (v := nI 0) hx hb dX4_build_59 (by decide +kernel) ?_
          exact W.eq (g2 := F0 m 60 ls [.int (bI (decide (n < 12)))]) (congrArg (fun z => F0 m 60 ls (.int z :: [])) (bI_z (decide_eq_false (by omega)))) j_6
        · refine lv_iconst (v := nI 1) hx hb dX4_build_55 (by decide +kernel) ?_
          refine lv_goto (tgt := 60) hx hb dX4_build_56 (by decide) ?_
          exact W.eq (g2 := F0 m 60 ls [.int (bI (decide (n < 12)))]) (congrArg (fun z => F0 m 60 ls (.int z :: [])) (bI_o (decide_eq_true c_14))) j_6
      · refine lv_aload_n hx hb dX4_build_40 rfl (lv_at hl 0 rfl) ?_
        refine lv_iconst (v := nI 1) hx hb dX4_build_41 (by decide +kernel) ?_
        refine x_runi (va_runV (As := [.int (nI 1)]) (rest := []) hC (c_X4_fail hP hD) (cwV 1 hts gX4_build_X4_fail rfl rfl rfl qdX4_fail ⟨Nat.le_of_ble_eq_true rfl, Nat.le_of_ble_eq_true rfl⟩) (x_preV hK (x_recv hK (hP 0 _ rfl) rfl)) rfl rfl hl.1 rfl (lv_room (Nat.le_of_ble_eq_true rfl)) dX4_build_42 ⟨Nat.le_of_ble_eq_true rfl, Nat.le_of_ble_eq_true rfl⟩) hS (fun _ h => h) (fun r_15 H locs hfr hΦ hS => ?_)
        obtain ⟨er_15, hP⟩ := hΦ
        rw [er_15]
        have hP : mP G b (va_up mi 0 (nI 1)) ma H := hP
        have hD : va_D A (mW G b (va_up mi 0 (nI 1)) ma) := hD.same rfl
        have hkk9 : k2 (inR (nI 0) (nI 999) x1 && inR (-600) (nI 600) x2 && inR (-99) (nI 99) x3) (decide (n < 12) && frB (ma 0) x1 n) = 1 := by simp only [k2, Bool.and_true, Bool.true_and, Bool.and_false, Bool.false_and, c_1, c_3, c_5] <;> rfl
        have hkn9 : ¬ k2 (inR (nI 0) (nI 999) x1 && inR (-600) (nI 600) x2 && inR (-99) (nI 99) x3) (decide (n < 12) && frB (ma 0) x1 n) = 0 := by rw [hkk9]; decide
        exact x_iret hQ hx hb hr rfl hlk hS.2.2 dX4_build_45 ⟨hS.fr, mQ_mk (k0 := 1) hkk9 hP rfl (by rw [if_neg hkn9]; exact hmn) (hmh) (by rw [if_neg hkn9] <;> rfl) (rfl) (fun z => absurd z (by decide))⟩
