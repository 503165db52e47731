/-- the least and the greatest of the clocks 0 to k -/
def loC (L : Nat → Int32) (t : Int32) : Nat → Int32
  | 0 => clk L 0 t
  | k + 1 => mn (loC L t k) (clk L (k + 1) t)
def hiC (L : Nat → Int32) (t : Int32) : Nat → Int32
  | 0 => clk L 0 t
  | k + 1 => mx (hiC L t k) (clk L (k + 1) t)
abbrev rmX3_spread : Room := { frames := 6, cells := 1, slots := 6, locals := 90 }
theorem qdX3_spread : yX3_spread.cls = RX3 ∧ yX3_spread.cls ≠ "java/lang/invoke/MethodHandle" ∧ yX3_spread.cls ≠ "java/lang/invoke/VarHandle" ∧ (parseMethodDescriptor yX3_spread.desc).map (fun d => d.parameters.length) = some 1 := by decide +kernel
set_option maxHeartbeats 4000000 in
set_option maxRecDepth 100000 in
theorem c_X3_spread {l : Launch} {G : gT} {A : Nat → Prop} {H0 : Heap} {zA : Nat × Nat} {ro : Nat → Prop} {n hn : Nat} {L T : Nat → Int32} {o : List Nat} {sa fa ta ha : Nat → Nat} {F U : Nat → Nat → Int32} {aS aB aH xa rb0 ms9 : Nat} {x1 : Int32} (hxo : pt G xa (.inr (3, [.ref aS, .ref aB, .ref aH, .ref rb0, .ref ms9])) H0) (hcr : crO G ro n hn L T o sa fa ta ha F U aS aB aH H0) (hg : OK n hn L T) (ho : IsOrd (fun s => gL L s 0) n o) (hst : l.stackTraces = false) : VzI G zA l yX3_spread wsX3_spread rmX3_spread [.ref xa, .int x1] H0 A 1 6 [eIA] (k1 (inR (nI 0) (nI 1000000) x1)) (fun r H1 => r = if n = 0 then nI 0 else hiC L x1 (n - 1) - loC L x1 (n - 1)) := by
  refine x_headx (bytes := cX3_spread) (maxL := 6) (ret := (some .int)) (by decide) rfl (Nat.le_of_ble_eq_true rfl) ?_
  intro p e s m below meth c ls hx hb hml hown hts hr hlk hnm hK hs0 hl Q hQ hZ hxt
  have hl : lv_has ls 6 [(0, .ref xa), (1, .int x1)] := hl
  have hC : CallFix p m c cX3_spread 6 s [.ref xa, .int x1].toArray wsX3_spread RX3 := ⟨hx, hb, hml, hown, hts⟩
  have k_c98 := hts (.constant RX3 98 (1000000)) (by decide +kernel)
  have k_f12 := hts (.fieldLink RX3 12 "SundogLine" "stations" "Ljava/util/ArrayList;") (by decide +kernel)
  have in_X3 : ∀ w ∈ u_ws RX3 TX3 5, w ∈ wsX3_spread := by decide +kernel
  have k_cl51 := hts (.classLink RX3 51 "SundogLine$Station") (by decide +kernel)
  have k_m163 := hts (.methodLink RX3 163 Lib.Math.min.name) (by decide +kernel)
  have k_msmin := hts (.static Lib.Math.min.name) (by decide +kernel)
  have k_mi := hts (.initialized "java/lang/Math") (by decide +kernel)
  have k_mcmin := hts (.code Lib.Math.min.name Lib.Math.min.code 2 (some .int)) (by decide +kernel)
  have k_m166 := hts (.methodLink RX3 166 Lib.Math.max.name) (by decide +kernel)
  have k_msmax := hts (.static Lib.Math.max.name) (by decide +kernel)
  have k_mcmax := hts (.code Lib.Math.max.name Lib.Math.max.code 2 (some .int)) (by decide +kernel)
  have k_cl37 := hts (.classLink RX3 37 eIA) (by decide +kernel)
  have k_inieIA := hts (.initialized eIA) (by decide +kernel)
  have at_eIA : ∀ w ∈ (vx_at0 RX3 39 eIA xN).filter goodWord, w ∈ wsX3_spread := by decide +kernel
  have hN := hZ.nn
  have hS : va_S A H0 H0 [] := va_S.rf
  have hn12 := hg.n
  have hh16 := hg.hn
  refine lv_iload_n hx hb dX3_spread_0 rfl (lv_at hl 1 rfl) ?_
  refine lv_iconst (v := nI 0) hx hb dX3_spread_1 (by decide +kernel) ?_
  refine lv_ldc (v := nI 1000000) hx hb hown k_c98 dX3_spread_2 ?_
  refine x_rd (va_runS (As := [.int x1, .int (nI 0), .int (nI 1000000)]) (rest := []) hC (c_X3_outside) (cwS 3 hts gX3_spread_X3_outside rfl rfl rfl qdX3_outside ⟨Nat.le_of_ble_eq_true rfl, Nat.le_of_ble_eq_true rfl⟩) (x_preS hK) rfl rfl hl.1 rfl (lv_room (Nat.le_of_ble_eq_true rfl)) dX3_spread_4 ⟨Nat.le_of_ble_eq_true rfl, Nat.le_of_ble_eq_true rfl⟩) ?_
  refine x_if_eqB (tgt := 18) hx hb dX3_spread_7 (by decide) (fun c_1 => ?_) (fun c_1 => ?_)
  · refine lv_aload_n hx hb dX3_spread_18 rfl (lv_at hl 0 rfl) ?_
    refine x_get (T := TX3) (N := 5) (v := .ref aS) hx hb hts in_X3 hown hK (hxo) rfl 0 (by decide) k_f12 (fun _ h9 => h9) (rfl) dX3_spread_19 ?_
    refine x_rd (va_runV (As := []) (rest := []) hC (c_isEmpty (hcr.lS)) (cwV 0 hts gX3_spread_Jx4a65c_isEmpty_aae02 rfl rfl rfl qdJx4a65c_isEmpty_aae02 ⟨Nat.le_of_ble_eq_true rfl, Nat.le_of_ble_eq_true rfl⟩) (x_preV hK (alR_recv hK (hcr.lS))) rfl rfl hl.1 rfl (lv_room (Nat.le_of_ble_eq_true rfl)) dX3_spread_22 ⟨Nat.le_of_ble_eq_true rfl, Nat.le_of_ble_eq_true rfl⟩) ?_
    refine x_if_eqB (tgt := 30) hx hb dX3_spread_25 (by decide) (fun c_2 => ?_) (fun c_2 => ?_)
    · have hn0 : ¬ n = 0 := of_decide_eq_false c_2
      refine lv_aload_n hx hb dX3_spread_30 rfl (lv_at hl 0 rfl) ?_
      refine x_get (T := TX3) (N := 5) (v := .ref aS) hx hb hts in_X3 hown hK (hxo) rfl 0 (by decide) k_f12 (fun _ h9 => h9) (rfl) dX3_spread_31 ?_
      refine lv_iconst (v := nI 0) hx hb dX3_spread_34 (by decide +kernel) ?_
      refine x_rd (va_runV (As := [.int (nI 0)]) (rest := []) hC (c_get (hcr.lS) (by omega)) (cwV 1 hts gX3_spread_Jx4a65c_get_915e3 rfl rfl rfl qdJx4a65c_get_915e3 ⟨Nat.le_of_ble_eq_true rfl, Nat.le_of_ble_eq_true rfl⟩) (x_preV hK (alR_recv hK (hcr.lS))) rfl rfl hl.1 rfl (lv_room (Nat.le_of_ble_eq_true rfl)) dX3_spread_35 ⟨Nat.le_of_ble_eq_true rfl, Nat.le_of_ble_eq_true rfl⟩) ?_
      refine x_cast hx hb hown k_cl51 hK ((hcr.st (show 0 < n by omega)).1) rfl dX3_spread_38 ?_
      refine lv_iload_n hx hb dX3_spread_41 rfl (lv_at hl 1 rfl) ?_
      refine x_rd (va_runV (As := [.int x1]) (rest := []) hC (c_X2_readsAt (hcr.st (show 0 < n by omega))) (cwV 1 hts gX3_spread_X2_readsAt rfl rfl rfl qdX2_readsAt ⟨Nat.le_of_ble_eq_true rfl, Nat.le_of_ble_eq_true rfl⟩) (x_preV hK (x_recv hK ((hcr.st (show 0 < n by omega)).1) rfl)) rfl rfl hl.1 rfl (lv_room (Nat.le_of_ble_eq_true rfl)) dX3_spread_42 ⟨Nat.le_of_ble_eq_true rfl, Nat.le_of_ble_eq_true rfl⟩) ?_
      refine lv_istore_n (lv' := [(2, .int (clk L 0 x1)), (0, .ref xa), (1, .int x1)]) hx hb dX3_spread_45 rfl hl (by decide) rfl (fun ls hl => ?_)
      refine lv_iload_n hx hb dX3_spread_46 rfl (lv_at hl 0 rfl) ?_
      refine lv_istore_n (lv' := [(3, .int (clk L 0 x1)), (2, .int (clk L 0 x1)), (0, .ref xa), (1, .int x1)]) hx hb dX3_spread_47 rfl hl (by decide) rfl (fun ls hl => ?_)
      refine lv_iconst (v := nI 1) hx hb dX3_spread_48 (by decide +kernel) ?_
      refine lv_istore (lv' := [(4, .int (nI 1)), (3, .int (clk L 0 x1)), (2, .int (clk L 0 x1)), (0, .ref xa), (1, .int x1)]) hx hb dX3_spread_49 hl (by decide) rfl (fun ls hl => ?_)
      have loop_3 : ∀ (fu : Nat) (k : Nat)  (ls : Array Slot), n - k < fu → (k + 1 ≤ n) → lv_has ls 6 [(0, .ref xa), (1, .int x1), (2, .int (loC L x1 k)), (3, .int (hiC L x1 k)), (4, .int (nI (k + 1)))] → W p l e rmX3_spread s m [.ref xa, .int x1].toArray below meth c H0 [] 0 0 Q (F0 m 51 ls []) := by
        intro fu
        induction fu with
        | zero => intro k ls hms hk hl; exact absurd hms (Nat.not_lt_zero _)
        | succ fu ih_3 =>
          intro k ls hms hk hl
          refine lv_iload hx hb dX3_spread_51 (lv_at hl 4 rfl) ?_
          refine lv_aload_n hx hb dX3_spread_53 rfl (lv_at hl 0 rfl) ?_
          refine x_get (T := TX3) (N := 5) (v := .ref aS) hx hb hts in_X3 hown hK (hxo) rfl 0 (by decide) k_f12 (fun _ h9 => h9) (rfl) dX3_spread_54 ?_
          refine x_rd (va_runV (As := []) (rest := [.int (nI (k + 1))]) hC (c_size (hcr.lS)) (cwV 0 hts gX3_spread_Jx4a65c_size_8abf5 rfl rfl rfl qdJx4a65c_size_8abf5 ⟨Nat.le_of_ble_eq_true rfl, Nat.le_of_ble_eq_true rfl⟩) (x_preV hK (alR_recv hK (hcr.lS))) rfl rfl hl.1 rfl (lv_room (Nat.le_of_ble_eq_true rfl)) dX3_spread_57 ⟨Nat.le_of_ble_eq_true rfl, Nat.le_of_ble_eq_true rfl⟩) ?_
          refine x_icmp_ge (tgt := 101) hx hb (by omega) (by omega) dX3_spread_60 (by decide) (fun c_4 => ?_) (fun c_4 => ?_)
          · refine lv_iload_n hx hb dX3_spread_101 rfl (lv_at hl 3 rfl) ?_
            refine lv_iload_n hx hb dX3_spread_102 rfl (lv_at hl 2 rfl) ?_
            refine lv_isub hx hb dX3_spread_103 ?_
            have hkk9 : k1 (inR (nI 0) (nI 1000000) x1) = 0 := by simp only [k1, k2, k3, Bool.and_true, Bool.true_and, Bool.and_false, Bool.false_and, Bool.not_true, Bool.not_false, bnf c_1] <;> rfl
            refine W.widen (k := 1) (n := 6) (Nat.zero_le _) (Nat.zero_le _) ?_
            refine x_vxret hQ ?_
            exact x_iret rfl hx hb hr rfl hlk hS.2.2 dX3_spread_104 ⟨hS.fr, hkk9, by rw [if_neg hn0, show n - 1 = k by omega]⟩
          · refine lv_aload_n hx hb dX3_spread_63 rfl (lv_at hl 0 rfl) ?_
            refine x_get (T := TX3) (N := 5) (v := .ref aS) hx hb hts in_X3 hown hK (hxo) rfl 0 (by decide) k_f12 (fun _ h9 => h9) (rfl) dX3_spread_64 ?_
            refine lv_iload hx hb dX3_spread_67 (lv_at hl 4 rfl) ?_
            refine x_rd (va_runV (As := [.int (nI (k + 1))]) (rest := []) hC (c_get (hcr.lS) (by omega)) (cwV 1 hts gX3_spread_Jx4a65c_get_915e3 rfl rfl rfl qdJx4a65c_get_915e3 ⟨Nat.le_of_ble_eq_true rfl, Nat.le_of_ble_eq_true rfl⟩) (x_preV hK (alR_recv hK (hcr.lS))) rfl rfl hl.1 rfl (lv_room (Nat.le_of_ble_eq_true rfl)) dX3_spread_69 ⟨Nat.le_of_ble_eq_true rfl, Nat.le_of_ble_eq_true rfl⟩) ?_
            refine x_cast hx hb hown k_cl51 hK ((hcr.st (show (k + 1) < n by omega)).1) rfl dX3_spread_72 ?_
            refine lv_iload_n hx hb dX3_spread_75 rfl (lv_at hl 1 rfl) ?_
            refine x_rd (va_runV (As := [.int x1]) (rest := []) hC (c_X2_readsAt (hcr.st (show (k + 1) < n by omega))) (cwV 1 hts gX3_spread_X2_readsAt rfl rfl rfl qdX2_readsAt ⟨Nat.le_of_ble_eq_true rfl, Nat.le_of_ble_eq_true rfl⟩) (x_preV hK (x_recv hK ((hcr.st (show (k + 1) < n by omega)).1) rfl)) rfl rfl hl.1 rfl (lv_room (Nat.le_of_ble_eq_true rfl)) dX3_spread_76 ⟨Nat.le_of_ble_eq_true rfl, Nat.le_of_ble_eq_true rfl⟩) ?_
            refine lv_istore (lv' := [(5, .int (clk L (k + 1) x1)), (0, .ref xa), (1, .int x1), (2, .int (loC L x1 k)), (3, .int (hiC L x1 k)), (4, .int (nI (k + 1)))]) hx hb dX3_spread_79 hl (by decide) rfl (fun ls hl => ?_)
            refine lv_iload_n hx hb dX3_spread_81 rfl (lv_at hl 3 rfl) ?_
            refine lv_iload hx hb dX3_spread_82 (lv_at hl 0 rfl) ?_
            refine va_mmin hx hb (hml.trans hl.1.symm) hown k_m163 k_msmin k_mi k_mcmin (by decide) (Nat.le_of_ble_eq_true rfl) (Nat.zero_le _) (Nat.zero_le _) dX3_spread_84 ?_
            refine W.eq (g2 := F0 m 87 ls [.int (mn (loC L x1 k) (clk L (k + 1) x1))]) rfl ?_
            refine lv_istore_n (lv' := [(2, .int (mn (loC L x1 k) (clk L (k + 1) x1))), (5, .int (clk L (k + 1) x1)), (0, .ref xa), (1, .int x1), (3, .int (hiC L x1 k)), (4, .int (nI (k + 1)))]) hx hb dX3_spread_87 rfl hl (by decide) rfl (fun ls hl => ?_)
            refine lv_iload_n hx hb dX3_spread_88 rfl (lv_at hl 4 rfl) ?_
            refine lv_iload hx hb dX3_spread_89 (lv_at hl 1 rfl) ?_
            refine va_mmax hx hb (hml.trans hl.1.symm) hown k_m166 k_msmax k_mi k_mcmax (by decide) (Nat.le_of_ble_eq_true rfl) (Nat.zero_le _) (Nat.zero_le _) dX3_spread_91 ?_
            refine W.eq (g2 := F0 m 94 ls [.int (mx (hiC L x1 k) (clk L (k + 1) x1))]) rfl ?_
            refine lv_istore_n (lv' := [(3, .int (mx (hiC L x1 k) (clk L (k + 1) x1))), (2, .int (mn (loC L x1 k) (clk L (k + 1) x1))), (5, .int (clk L (k + 1) x1)), (0, .ref xa), (1, .int x1), (4, .int (nI (k + 1)))]) hx hb dX3_spread_94 rfl hl (by decide) rfl (fun ls hl => ?_)
            have hl : lv_has ls 6 [(3, .int (mx (hiC L x1 k) (clk L (k + 1) x1))), (2, .int (loC L x1 (k + 1))), (5, .int (clk L (k + 1) x1)), (0, .ref xa), (1, .int x1), (4, .int (nI (k + 1)))] := by
              have e9 : loC L x1 (k + 1) = mn (loC L x1 k) (clk L (k + 1) x1) := rfl
              rw [e9]; exact hl
            have hl : lv_has ls 6 [(3, .int (hiC L x1 (k + 1))), (2, .int (loC L x1 (k + 1))), (5, .int (clk L (k + 1) x1)), (0, .ref xa), (1, .int x1), (4, .int (nI (k + 1)))] := by
              have e9 : hiC L x1 (k + 1) = mx (hiC L x1 k) (clk L (k + 1) x1) := rfl
              rw [e9]; exact hl
            refine lv_iinc (v := nI ((k + 1) + 1)) (lv' := [(4, .int (nI ((k + 1) + 1))), (3, .int (hiC L x1 (k + 1))), (2, .int (loC L x1 (k + 1))), (5, .int (clk L (k + 1) x1)), (0, .ref xa), (1, .int x1)]) hx hb dX3_spread_95 hl (k := 5) rfl (nI_incn _) (by decide) rfl (fun ls hl => ?_)
            refine lv_goto (tgt := 51) hx hb dX3_spread_98 (by decide) ?_
            exact ih_3 (k + 1) ls (by omega) (by omega) (lv_sub hl [4, 5, 2, 1, 0] rfl)
      exact loop_3 _ 0 ls (Nat.lt_succ_self _) (by omega) (lv_sub hl [3, 4, 2, 1, 0] rfl)
    · have hn0 : n = 0 := of_decide_eq_true c_2
      refine lv_iconst (v := nI 0) hx hb dX3_spread_28 (by decide +kernel) ?_
      have hkk9 : k1 (inR (nI 0) (nI 1000000) x1) = 0 := by simp only [k1, k2, k3, Bool.and_true, Bool.true_and, Bool.and_false, Bool.false_and, Bool.not_true, Bool.not_false, bnf c_1] <;> rfl
      refine W.widen (k := 1) (n := 6) (Nat.zero_le _) (Nat.zero_le _) ?_
      refine x_vxret hQ ?_
      exact x_iret rfl hx hb hr rfl hlk hS.2.2 dX3_spread_29 ⟨hS.fr, hkk9, (if_pos hn0).symm⟩
  · have hkk9 : k1 (inR (nI 0) (nI 1000000) x1) = 1 := by simp only [k1, k2, k3, Bool.and_true, Bool.true_and, Bool.and_false, Bool.false_and, Bool.not_true, Bool.not_false, bnt c_1] <;> rfl
    exact x_throw (cls := eIA) hQ hx hb hst hs0 hZ hS rfl hown (Or.inr (Or.inl rfl)) (by decide) k_cl37 k_inieIA (fun w hw => hts w (at_eIA w hw)) xb_eIA xg_eIA (hl.1.trans hml.symm) dX3_spread_10 dX3_spread_13 dX3_spread_14 dX3_spread_17 hxt (Nat.le_of_ble_eq_true rfl) (Nat.le_of_ble_eq_true rfl) (Nat.le_of_ble_eq_true rfl) (Nat.le_of_ble_eq_true rfl) hlk hS.2.2 (by decide) (by decide) (by rw [hkk9]; exact ⟨by decide, rfl⟩)
