/-- what guess() tells -/
def gue (L T : Nat → Int32) (o : List Nat) (h i : Nat) : Int32 := if sqM L T o h < 2 then (-1000000) else bas L T o h + rise (slp L T o h) (gL L i 0)
abbrev rmX4_haloTold : Room := { frames := 5, cells := 0, slots := 0, locals := 116 }
theorem qdX4_haloTold : yX4_haloTold.cls = RX4 ∧ yX4_haloTold.cls ≠ "java/lang/invoke/MethodHandle" ∧ yX4_haloTold.cls ≠ "java/lang/invoke/VarHandle" ∧ (parseMethodDescriptor yX4_haloTold.desc).map (fun d => d.parameters.length) = some 2 := by decide +kernel
set_option maxHeartbeats 4000000 in
set_option maxRecDepth 100000 in
theorem c_X4_haloTold {l : Launch} {G : gT} {A : Nat → Prop} {b : Nat → Nat} {mi : Nat → Int32} {ma : Nat → Nat → Int32} {H0 : Heap} {n hn j kk : Nat} {o : List Nat} (hP : mP G b mi ma H0) (hD : va_D A (mW G b mi ma)) (hg : OK n hn (ma 0) (ma 1)) (hj : j < hn) (hmn : mi 1 = nI n) (ho : IsOrd (fun s => gL (ma 0) s 0) n o) (hkk : kk < 7) : WrI G l yX4_haloTold wsX4_haloTold rmX4_haloTold [.ref (b 0), .int (nI j), .int (nI kk)] H0 A (fun r H1 => r = hv (ma 0) (ma 1) o j kk ∧ ∃ sA rA vA : Nat → Int32, (∀ k, k < (sqL (ma 0) (ma 1) o j).length → sA k = nI (sq (ma 0) (ma 1) o j k)) ∧ (∀ k, k < (sqL (ma 0) (ma 1) o j).length → rA k = (rr (ma 0) (ma 1) o j k)) ∧ mP G b (mR mi (nI (sqL (ma 0) (ma 1) o j).length) (slp (ma 0) (ma 1) o j) (bas (ma 0) (ma 1) o j)) (aR ma sA rA vA) H1) := by
  refine x_head (bytes := cX4_haloTold) (maxL := 6) (ret := (some .int)) (by decide) rfl (Nat.le_of_ble_eq_true rfl) ?_
  intro p e s m below meth c ls hx hb hml hown hts hr hlk hnm hK hs0 hl Q hQ
  have hl : lv_has ls 6 [(0, .ref (b 0)), (1, .int (nI j)), (2, .int (nI kk))] := hl
  have hC : CallFix p m c cX4_haloTold 6 s [.ref (b 0), .int (nI j), .int (nI kk)].toArray wsX4_haloTold RX4 := ⟨hx, hb, hml, hown, hts⟩
  have k_f103 := hts (.fieldLink RX4 103 "SundogLineModel" "many" "I") (by decide +kernel)
  have in_X4 : ∀ w ∈ u_ws RX4 TX4 11, w ∈ wsX4_haloTold := by decide +kernel
  have k_f98 := hts (.fieldLink RX4 98 "SundogLineModel" "slope" "I") (by decide +kernel)
  have k_f109 := hts (.fieldLink RX4 109 "SundogLineModel" "base" "I") (by decide +kernel)
  have k_f16 := hts (.fieldLink RX4 16 "SundogLineModel" "seers" "[I") (by decide +kernel)
  have k_c91 := hts (.constant RX4 91 (-1000000)) (by decide +kernel)
  have k_m121 := hts (.methodLink RX4 121 Lib.Math.max.name) (by decide +kernel)
  have k_msmax := hts (.static Lib.Math.max.name) (by decide +kernel)
  have k_mi := hts (.initialized "java/lang/Math") (by decide +kernel)
  have k_mcmax := hts (.code Lib.Math.max.name Lib.Math.max.code 2 (some .int)) (by decide +kernel)
  have k_f19 := hts (.fieldLink RX4 19 "SundogLineModel" "readings" "[I") (by decide +kernel)
  have hS : va_S A H0 H0 [] := va_S.rf
  have hn12 := hg.n
  have hh16 := hg.hn
  refine lv_aload_n hx hb dX4_haloTold_0 rfl (lv_at hl 0 rfl) ?_
  refine lv_iload_n hx hb dX4_haloTold_1 rfl (lv_at hl 1 rfl) ?_
  refine x_runv (va_runV (As := [.int (nI j)]) (rest := []) hC (c_X4_reckon hP hD hg (by omega) hmn ho) (cwV 1 hts gX4_haloTold_X4_reckon rfl rfl rfl qdX4_reckon ⟨Nat.le_of_ble_eq_true rfl, Nat.le_of_ble_eq_true rfl⟩) (x_preV hK (x_recv hK (hP 0 _ rfl) rfl)) rfl rfl hl.1 rfl (lv_room (Nat.le_of_ble_eq_true rfl)) dX4_haloTold_2 ⟨Nat.le_of_ble_eq_true rfl, Nat.le_of_ble_eq_true rfl⟩) hS (fun _ h => h) (fun H locs hfr hΦ hS => ?_)
  obtain ⟨sA1, rA1, vA1, hsA1, hrA1, hP⟩ := hΦ
  have hP : mP G b (va_up (va_up (va_up mi 3 (nI (sqL (ma 0) (ma 1) o j).length)) 4 (slp (ma 0) (ma 1) o j)) 5 (bas (ma 0) (ma 1) o j)) (va_up (va_up (va_up ma 2 sA1) 3 rA1) 4 vA1) H := hP
  have hD : va_D A (mW G b (va_up (va_up (va_up mi 3 (nI (sqL (ma 0) (ma 1) o j).length)) 4 (slp (ma 0) (ma 1) o j)) 5 (bas (ma 0) (ma 1) o j)) (va_up (va_up (va_up ma 2 sA1) 3 rA1) 4 vA1)) := hD.same rfl
  have hM1 : (sqL (ma 0) (ma 1) o j).length ≤ n := sqM_le ho
  refine lv_iconst (v := nI 0) hx hb dX4_haloTold_5 (by decide +kernel) ?_
  refine lv_istore_n (lv' := [(3, .int (nI 0)), (0, .ref (b 0)), (1, .int (nI j)), (2, .int (nI kk))]) hx hb dX4_haloTold_6 rfl hl (by decide) rfl (fun ls hl => ?_)
  refine lv_iload_n hx hb dX4_haloTold_7 rfl (lv_at hl 3 rfl) ?_
  rcases (show kk = 0 ∨ kk = 1 ∨ kk = 2 ∨ kk = 3 ∨ kk = 4 ∨ kk = 5 ∨ kk = 6 by omega) with rfl | rfl | rfl | rfl | rfl | rfl | rfl
  · refine lv_tableIn (off := 40) (tgt := 48) hx hb dX4_haloTold_8 (by decide) (by decide) (by decide) (by decide) ?_
    refine lv_aload_n hx hb dX4_haloTold_48 rfl (lv_at hl 1 rfl) ?_
    refine x_get (T := TX4) (N := 11) (v := .int (nI ((sqL (ma 0) (ma 1) o j).length))) hx hb hts in_X4 hown hK (hP 0 _ rfl) rfl 7 (by decide) k_f103 (fun _ h9 => h9) (rfl) dX4_haloTold_49 ?_
    exact x_iret hQ hx hb hr rfl hlk hS.2.2 dX4_haloTold_52 (⟨hS.fr, rfl, sA1, rA1, vA1, hsA1, hrA1, hP⟩)
  · refine lv_tableIn (off := 45) (tgt := 53) hx hb dX4_haloTold_8 (by decide) (by decide) (by decide) (by decide) ?_
    refine lv_aload_n hx hb dX4_haloTold_53 rfl (lv_at hl 1 rfl) ?_
    refine x_get (T := TX4) (N := 11) (v := .int ((slp (ma 0) (ma 1) o j))) hx hb hts in_X4 hown hK (hP 0 _ rfl) rfl 8 (by decide) k_f98 (fun _ h9 => h9) (rfl) dX4_haloTold_54 ?_
    exact x_iret hQ hx hb hr rfl hlk hS.2.2 dX4_haloTold_57 (⟨hS.fr, rfl, sA1, rA1, vA1, hsA1, hrA1, hP⟩)
  · refine lv_tableIn (off := 50) (tgt := 58) hx hb dX4_haloTold_8 (by decide) (by decide) (by decide) (by decide) ?_
    refine lv_aload_n hx hb dX4_haloTold_58 rfl (lv_at hl 1 rfl) ?_
    refine x_get (T := TX4) (N := 11) (v := .int ((bas (ma 0) (ma 1) o j))) hx hb hts in_X4 hown hK (hP 0 _ rfl) rfl 9 (by decide) k_f109 (fun _ h9 => h9) (rfl) dX4_haloTold_59 ?_
    exact x_iret hQ hx hb hr rfl hlk hS.2.2 dX4_haloTold_62 (⟨hS.fr, rfl, sA1, rA1, vA1, hsA1, hrA1, hP⟩)
  · refine lv_tableIn (off := 55) (tgt := 63) hx hb dX4_haloTold_8 (by decide) (by decide) (by decide) (by decide) ?_
    refine lv_aload_n hx hb dX4_haloTold_63 rfl (lv_at hl 1 rfl) ?_
    refine x_get (T := TX4) (N := 11) (v := .int (nI ((sqL (ma 0) (ma 1) o j).length))) hx hb hts in_X4 hown hK (hP 0 _ rfl) rfl 7 (by decide) k_f103 (fun _ h9 => h9) (rfl) dX4_haloTold_64 ?_
    refine lv_iconst (v := nI 2) hx hb dX4_haloTold_67 (by decide +kernel) ?_
    refine x_icmp_ge (tgt := 76) hx hb (by omega) (by omega) dX4_haloTold_68 (by decide) (fun c_2 => ?_) (fun c_2 => ?_)
    · refine lv_aload_n hx hb dX4_haloTold_76 rfl (lv_at hl 1 rfl) ?_
      refine x_get (T := TX4) (N := 11) (v := .ref (b 3)) hx hb hts in_X4 hown hK (hP 0 _ rfl) rfl 5 (by decide) k_f16 (fun _ h9 => h9) (rfl) dX4_haloTold_77 ?_
      refine lv_aload_n hx hb dX4_haloTold_80 rfl (lv_at hl 1 rfl) ?_
      refine x_rd (va_runV (As := []) (rest := [.ref (b 3)]) hC (c_X4_odd (q := sq (ma 0) (ma 1) o j) (M := (sqL (ma 0) (ma 1) o j).length) hP rfl (by omega) (by omega) hsA1 (fun k hk => Nat.lt_of_lt_of_le (sq_lt ho hk) hn12)) (cwV 0 hts gX4_haloTold_X4_odd rfl rfl rfl qdX4_odd ⟨Nat.le_of_ble_eq_true rfl, Nat.le_of_ble_eq_true rfl⟩) (x_preV hK (x_recv hK (hP 0 _ rfl) rfl)) rfl rfl hl.1 rfl (lv_room (Nat.le_of_ble_eq_true rfl)) dX4_haloTold_81 ⟨Nat.le_of_ble_eq_true rfl, Nat.le_of_ble_eq_true rfl⟩) ?_
      refine W.eq (g2 := F0 m 84 ls [.int (nI (oddI (ma 0) (ma 1) o j)), .ref (b 3)]) (congrArg (fun z => F0 m 84 ls (.int z :: [.ref (b 3)])) (congrArg nI (ob_congr _ (fun k hk => congrArg ab (by simp only [lfv, lf]; rw [show ((va_up (va_up (va_up ma 2 sA1) 3 rA1) 4 vA1)) 3 k = rr (ma 0) (ma 1) o j k from hrA1 k hk]; rfl)) (fun k hk => rfl)))) ?_
      have hod : oddI (ma 0) (ma 1) o j < (sqL (ma 0) (ma 1) o j).length := oddI_lt (by omega)
      refine x_ialdN hx hb hK (hP 3 _ rfl) (by omega) (by decide) dX4_haloTold_84 ?_
      refine W.eq (g2 := F0 m 85 ls [.int (nI (sq (ma 0) (ma 1) o j (oddI (ma 0) (ma 1) o j)))]) (congrArg (fun z => F0 m 85 ls (.int z :: [])) (hsA1 _ (by omega))) ?_
      exact x_iret hQ hx hb hr rfl hlk hS.2.2 dX4_haloTold_85 (⟨hS.fr, by show _ = (if (sqL (ma 0) (ma 1) o j).length < 2 then _ else _); rw [if_neg (by omega)], sA1, rA1, vA1, hsA1, hrA1, hP⟩)
    · refine lv_ldc (v := (-1000000)) hx hb hown k_c91 dX4_haloTold_71 ?_
      refine lv_goto (tgt := 85) hx hb dX4_haloTold_73 (by decide) ?_
      exact x_iret hQ hx hb hr rfl hlk hS.2.2 dX4_haloTold_85 (⟨hS.fr, by show _ = (if (sqL (ma 0) (ma 1) o j).length < 2 then _ else _); rw [if_pos c_2], sA1, rA1, vA1, hsA1, hrA1, hP⟩)
  · refine lv_tableIn (off := 78) (tgt := 86) hx hb dX4_haloTold_8 (by decide) (by decide) (by decide) (by decide) ?_
    refine lv_aload_n hx hb dX4_haloTold_86 rfl (lv_at hl 1 rfl) ?_
    refine x_get (T := TX4) (N := 11) (v := .int (nI ((sqL (ma 0) (ma 1) o j).length))) hx hb hts in_X4 hown hK (hP 0 _ rfl) rfl 7 (by decide) k_f103 (fun _ h9 => h9) (rfl) dX4_haloTold_87 ?_
    refine lv_iconst (v := nI 2) hx hb dX4_haloTold_90 (by decide +kernel) ?_
    refine x_icmp_ge (tgt := 99) hx hb (by omega) (by omega) dX4_haloTold_91 (by decide) (fun c_3 => ?_) (fun c_3 => ?_)
    · refine lv_aload_n hx hb dX4_haloTold_99 rfl (lv_at hl 1 rfl) ?_
      refine lv_aload_n hx hb dX4_haloTold_100 rfl (lv_at hl 1 rfl) ?_
      refine x_rd (va_runV (As := []) (rest := [.ref (b 0)]) hC (c_X4_odd (q := sq (ma 0) (ma 1) o j) (M := (sqL (ma 0) (ma 1) o j).length) hP rfl (by omega) (by omega) hsA1 (fun k hk => Nat.lt_of_lt_of_le (sq_lt ho hk) hn12)) (cwV 0 hts gX4_haloTold_X4_odd rfl rfl rfl qdX4_odd ⟨Nat.le_of_ble_eq_true rfl, Nat.le_of_ble_eq_true rfl⟩) (x_preV hK (x_recv hK (hP 0 _ rfl) rfl)) rfl rfl hl.1 rfl (lv_room (Nat.le_of_ble_eq_true rfl)) dX4_haloTold_101 ⟨Nat.le_of_ble_eq_true rfl, Nat.le_of_ble_eq_true rfl⟩) ?_
      refine W.eq (g2 := F0 m 104 ls [.int (nI (oddI (ma 0) (ma 1) o j)), .ref (b 0)]) (congrArg (fun z => F0 m 104 ls (.int z :: [.ref (b 0)])) (congrArg nI (ob_congr _ (fun k hk => congrArg ab (by simp only [lfv, lf]; rw [show ((va_up (va_up (va_up ma 2 sA1) 3 rA1) 4 vA1)) 3 k = rr (ma 0) (ma 1) o j k from hrA1 k hk]; rfl)) (fun k hk => rfl)))) ?_
      have hod : oddI (ma 0) (ma 1) o j < (sqL (ma 0) (ma 1) o j).length := oddI_lt (by omega)
      refine x_rd (va_runV (As := [.int (nI (oddI (ma 0) (ma 1) o j))]) (rest := []) hC (c_X4_left (q := sq (ma 0) (ma 1) o j) hP (by omega) (hsA1 _ (by omega)) (Nat.lt_of_lt_of_le (sq_lt ho (by omega)) hn12)) (cwV 1 hts gX4_haloTold_X4_left rfl rfl rfl qdX4_left ⟨Nat.le_of_ble_eq_true rfl, Nat.le_of_ble_eq_true rfl⟩) (x_preV hK (x_recv hK (hP 0 _ rfl) rfl)) rfl rfl hl.1 rfl (lv_room (Nat.le_of_ble_eq_true rfl)) dX4_haloTold_104 ⟨Nat.le_of_ble_eq_true rfl, Nat.le_of_ble_eq_true rfl⟩) ?_
      refine W.eq (g2 := F0 m 107 ls [.int (lf (ma 0) (ma 1) o j (oddI (ma 0) (ma 1) o j))]) (congrArg (fun z => F0 m 107 ls (.int z :: [])) (by simp only [lfv, lf]; rw [show ((va_up (va_up (va_up ma 2 sA1) 3 rA1) 4 vA1)) 3 (oddI (ma 0) (ma 1) o j) = rr (ma 0) (ma 1) o j (oddI (ma 0) (ma 1) o j) from hrA1 _ (by omega)]; rfl)) ?_
      exact x_iret hQ hx hb hr rfl hlk hS.2.2 dX4_haloTold_107 (⟨hS.fr, by show _ = (if (sqL (ma 0) (ma 1) o j).length < 2 then _ else _); rw [if_neg (by omega)], sA1, rA1, vA1, hsA1, hrA1, hP⟩)
    · refine lv_ldc (v := (-1000000)) hx hb hown k_c91 dX4_haloTold_94 ?_
      refine lv_goto (tgt := 107) hx hb dX4_haloTold_96 (by decide) ?_
      exact x_iret hQ hx hb hr rfl hlk hS.2.2 dX4_haloTold_107 (⟨hS.fr, by show _ = (if (sqL (ma 0) (ma 1) o j).length < 2 then _ else _); rw [if_pos c_3], sA1, rA1, vA1, hsA1, hrA1, hP⟩)
  · refine lv_tableIn (off := 100) (tgt := 108) hx hb dX4_haloTold_8 (by decide) (by decide) (by decide) (by decide) ?_
    refine lv_aload_n hx hb dX4_haloTold_108 rfl (lv_at hl 1 rfl) ?_
    refine lv_iconst (v := nI 1) hx hb dX4_haloTold_109 (by decide +kernel) ?_
    refine x_runi (va_runV (As := [.int (nI 1)]) (rest := []) hC (c_X4_steady (M := (sqL (ma 0) (ma 1) o j).length) hP hD rfl (by omega)) (cwV 1 hts gX4_haloTold_X4_steady rfl rfl rfl qdX4_steady ⟨Nat.le_of_ble_eq_true rfl, Nat.le_of_ble_eq_true rfl⟩) (x_preV hK (x_recv hK (hP 0 _ rfl) rfl)) rfl rfl hl.1 rfl (lv_room (Nat.le_of_ble_eq_true rfl)) dX4_haloTold_110 ⟨Nat.le_of_ble_eq_true rfl, Nat.le_of_ble_eq_true rfl⟩) hS (fun _ h => h) (fun r_4 H locs hfr hΦ hS => ?_)
    obtain ⟨er_4, v_5, hP⟩ := hΦ
    have hP : mP G b (va_up (va_up (va_up mi 3 (nI (sqL (ma 0) (ma 1) o j).length)) 4 (slp (ma 0) (ma 1) o j)) 5 (bas (ma 0) (ma 1) o j)) (va_up (va_up (va_up ma 2 sA1) 3 rA1) 4 v_5) H := hP
    have hD : va_D A (mW G b (va_up (va_up (va_up mi 3 (nI (sqL (ma 0) (ma 1) o j).length)) 4 (slp (ma 0) (ma 1) o j)) 5 (bas (ma 0) (ma 1) o j)) (va_up (va_up (va_up ma 2 sA1) 3 rA1) 4 v_5)) := hD.same rfl
    have er_4 : r_4 = nI (lrun (gc (nI 1) (rr (ma 0) (ma 1) o j)) (sqL (ma 0) (ma 1) o j).length) := er_4.trans (congrArg nI (lrun_congr _ (fun i k h1 h2 => by simp only [gc]; rw [show ((va_up (va_up (va_up ma 2 sA1) 3 rA1) 4 vA1)) 3 i = rr (ma 0) (ma 1) o j i from hrA1 i (by omega), show ((va_up (va_up (va_up ma 2 sA1) 3 rA1) 4 vA1)) 3 k = rr (ma 0) (ma 1) o j k from hrA1 k h2])))
    rw [er_4]
    refine lv_aload_n hx hb dX4_haloTold_113 rfl (lv_at hl 1 rfl) ?_
    refine lv_iconst (v := (-1)) hx hb dX4_haloTold_114 (by decide +kernel) ?_
    refine x_runi (va_runV (As := [.int ((-1))]) (rest := [.int (nI (lrun (gc (nI 1) (rr (ma 0) (ma 1) o j)) (sqL (ma 0) (ma 1) o j).length))]) hC (c_X4_steady (M := (sqL (ma 0) (ma 1) o j).length) hP hD rfl (by omega)) (cwV 1 hts gX4_haloTold_X4_steady rfl rfl rfl qdX4_steady ⟨Nat.le_of_ble_eq_true rfl, Nat.le_of_ble_eq_true rfl⟩) (x_preV hK (x_recv hK (hP 0 _ rfl) rfl)) rfl rfl hl.1 rfl (lv_room (Nat.le_of_ble_eq_true rfl)) dX4_haloTold_115 ⟨Nat.le_of_ble_eq_true rfl, Nat.le_of_ble_eq_true rfl⟩) hS (fun _ h => h) (fun r_6 H locs hfr hΦ hS => ?_)
    obtain ⟨er_6, v_7, hP⟩ := hΦ
    have hP : mP G b (va_up (va_up (va_up mi 3 (nI (sqL (ma 0) (ma 1) o j).length)) 4 (slp (ma 0) (ma 1) o j)) 5 (bas (ma 0) (ma 1) o j)) (va_up (va_up (va_up ma 2 sA1) 3 rA1) 4 v_7) H := hP
    have hD : va_D A (mW G b (va_up (va_up (va_up mi 3 (nI (sqL (ma 0) (ma 1) o j).length)) 4 (slp (ma 0) (ma 1) o j)) 5 (bas (ma 0) (ma 1) o j)) (va_up (va_up (va_up ma 2 sA1) 3 rA1) 4 v_7)) := hD.same rfl
    have er_6 : r_6 = nI (lrun (gc (-1) (rr (ma 0) (ma 1) o j)) (sqL (ma 0) (ma 1) o j).length) := er_6.trans (congrArg nI (lrun_congr _ (fun i k h1 h2 => by simp only [gc]; rw [show ((va_up (va_up (va_up ma 2 sA1) 3 rA1) 4 v_5)) 3 i = rr (ma 0) (ma 1) o j i from hrA1 i (by omega), show ((va_up (va_up (va_up ma 2 sA1) 3 rA1) 4 v_5)) 3 k = rr (ma 0) (ma 1) o j k from hrA1 k h2])))
    rw [er_6]
    refine va_mmax hx hb (hml.trans hl.1.symm) hown k_m121 k_msmax k_mi k_mcmax (by decide) (Nat.le_of_ble_eq_true rfl) (Nat.zero_le _) (Nat.zero_le _) dX4_haloTold_118 ?_
    refine W.eq (g2 := F0 m 121 ls [.int (mx (nI (lrun (gc (nI 1) (rr (ma 0) (ma 1) o j)) (sqL (ma 0) (ma 1) o j).length)) (nI (lrun (gc (-1) (rr (ma 0) (ma 1) o j)) (sqL (ma 0) (ma 1) o j).length)))]) rfl ?_
    refine W.eq (g2 := F0 m 121 ls [.int (nI (max (lrun (gc (nI 1) (rr (ma 0) (ma 1) o j)) (sqL (ma 0) (ma 1) o j).length) (lrun (gc (-1) (rr (ma 0) (ma 1) o j)) (sqL (ma 0) (ma 1) o j).length)))]) (congrArg (fun z => F0 m 121 ls (.int z :: [])) (mx_nat (by have := lrun_le (gc (nI 1) (rr (ma 0) (ma 1) o j)) (sqL (ma 0) (ma 1) o j).length; omega) (by have := lrun_le (gc (-1) (rr (ma 0) (ma 1) o j)) (sqL (ma 0) (ma 1) o j).length; omega))) ?_
    exact x_iret hQ hx hb hr rfl hlk hS.2.2 dX4_haloTold_121 (⟨hS.fr, rfl, sA1, rA1, v_7, hsA1, hrA1, hP⟩)
  · refine lv_tableOut (tgt := 122) hx hb dX4_haloTold_8 (by decide) (by decide) ?_
    refine lv_iconst (v := nI 0) hx hb dX4_haloTold_122 (by decide +kernel) ?_
    refine lv_istore (lv' := [(4, .int (nI 0)), (3, .int (nI 0)), (0, .ref (b 0)), (1, .int (nI j)), (2, .int (nI 6))]) hx hb dX4_haloTold_123 hl (by decide) rfl (fun ls hl => ?_)
    have loop_8 : ∀ (fu : Nat) (aa : Nat)  (ls : Array Slot), (sqL (ma 0) (ma 1) o j).length - aa < fu → (aa ≤ (sqL (ma 0) (ma 1) o j).length) → lv_has ls 6 [(0, .ref (b 0)), (3, .int (nI (allC (fallB (rr (ma 0) (ma 1) o j)) (sqL (ma 0) (ma 1) o j).length aa))), (4, .int (nI aa))] → W p l e rmX4_haloTold s m [.ref (b 0), .int (nI j), .int (nI 6)].toArray below meth c H locs 0 0 Q (F0 m 125 ls []) := by
      intro fu
      induction fu with
      | zero => intro aa ls hms haa hl; exact absurd hms (Nat.not_lt_zero _)
      | succ fu ih_8 =>
        intro aa ls hms haa hl
        refine lv_iload hx hb dX4_haloTold_125 (lv_at hl 2 rfl) ?_
        refine lv_aload_n hx hb dX4_haloTold_127 rfl (lv_at hl 0 rfl) ?_
        refine x_get (T := TX4) (N := 11) (v := .int (nI ((sqL (ma 0) (ma 1) o j).length))) hx hb hts in_X4 hown hK (hP 0 _ rfl) rfl 7 (by decide) k_f103 (fun _ h9 => h9) (rfl) dX4_haloTold_128 ?_
        refine x_icmp_ge (tgt := 186) hx hb (by omega) (by omega) dX4_haloTold_131 (by decide) (fun c_9 => ?_) (fun c_9 => ?_)
        · refine lv_iload_n hx hb dX4_haloTold_186 rfl (lv_at hl 1 rfl) ?_
          exact x_iret hQ hx hb hr rfl hlk hS.2.2 dX4_haloTold_187 (⟨hS.fr, by show _ = nI (allC _ (sqL (ma 0) (ma 1) o j).length (sqL (ma 0) (ma 1) o j).length); rw [show aa = (sqL (ma 0) (ma 1) o j).length by omega], sA1, rA1, vA1, hsA1, hrA1, hP⟩)
        · refine lv_iload hx hb dX4_haloTold_134 (lv_at hl 2 rfl) ?_
          refine lv_iconst (v := nI 1) hx hb dX4_haloTold_136 (by decide +kernel) ?_
          refine x_iaddN hx hb dX4_haloTold_137 ?_
          refine lv_istore (lv' := [(5, .int (nI (aa + 1))), (0, .ref (b 0)), (3, .int (nI (allC (fallB (rr (ma 0) (ma 1) o j)) (sqL (ma 0) (ma 1) o j).length aa))), (4, .int (nI aa))]) hx hb dX4_haloTold_138 hl (by decide) rfl (fun ls hl => ?_)
          have hl : lv_has ls 6 [(5, .int (nI (aa + 1))), (0, .ref (b 0)), (3, .int (nI (allC (fallB (rr (ma 0) (ma 1) o j)) (sqL (ma 0) (ma 1) o j).length aa + rowC (fallB (rr (ma 0) (ma 1) o j)) aa (aa + 1)))), (4, .int (nI aa))] := by
            have e9 : (allC (fallB (rr (ma 0) (ma 1) o j)) (sqL (ma 0) (ma 1) o j).length aa + rowC (fallB (rr (ma 0) (ma 1) o j)) aa (aa + 1)) = (allC (fallB (rr (ma 0) (ma 1) o j)) (sqL (ma 0) (ma 1) o j).length aa) := by rw [rowC_0 (fallB (rr (ma 0) (ma 1) o j)) aa (aa + 1) (Nat.le_refl _)]; rfl
            rw [e9]; exact hl
          have loop_10 : ∀ (fu : Nat) (bb : Nat)  (ls : Array Slot), (sqL (ma 0) (ma 1) o j).length - bb < fu → (aa + 1 ≤ bb) → (bb ≤ (sqL (ma 0) (ma 1) o j).length) → lv_has ls 6 [(0, .ref (b 0)), (3, .int (nI (allC (fallB (rr (ma 0) (ma 1) o j)) (sqL (ma 0) (ma 1) o j).length aa + rowC (fallB (rr (ma 0) (ma 1) o j)) aa bb))), (4, .int (nI aa)), (5, .int (nI bb))] → W p l e rmX4_haloTold s m [.ref (b 0), .int (nI j), .int (nI 6)].toArray below meth c H locs 0 0 Q (F0 m 140 ls []) := by
            intro fu
            induction fu with
            | zero => intro bb ls hms hbb hbM hl; exact absurd hms (Nat.not_lt_zero _)
            | succ fu ih_10 =>
              intro bb ls hms hbb hbM hl
              refine lv_iload hx hb dX4_haloTold_140 (lv_at hl 3 rfl) ?_
              refine lv_aload_n hx hb dX4_haloTold_142 rfl (lv_at hl 0 rfl) ?_
              refine x_get (T := TX4) (N := 11) (v := .int (nI ((sqL (ma 0) (ma 1) o j).length))) hx hb hts in_X4 hown hK (hP 0 _ rfl) rfl 7 (by decide) k_f103 (fun _ h9 => h9) (rfl) dX4_haloTold_143 ?_
              refine x_icmp_ge (tgt := 180) hx hb (by omega) (by omega) dX4_haloTold_146 (by decide) (fun c_11 => ?_) (fun c_11 => ?_)
              · have hl : lv_has ls 6 [(0, .ref (b 0)), (3, .int (nI (allC (fallB (rr (ma 0) (ma 1) o j)) (sqL (ma 0) (ma 1) o j).length (aa + 1)))), (4, .int (nI aa)), (5, .int (nI bb))] := by
                  have e9 : (allC (fallB (rr (ma 0) (ma 1) o j)) (sqL (ma 0) (ma 1) o j).length (aa + 1)) = (allC (fallB (rr (ma 0) (ma 1) o j)) (sqL (ma 0) (ma 1) o j).length aa + rowC (fallB (rr (ma 0) (ma 1) o j)) aa bb) := by show allC (fallB (rr (ma 0) (ma 1) o j)) (sqL (ma 0) (ma 1) o j).length aa + rowC (fallB (rr (ma 0) (ma 1) o j)) aa (sqL (ma 0) (ma 1) o j).length = _; rw [show bb = (sqL (ma 0) (ma 1) o j).length by omega]
                  rw [e9]; exact hl
                refine lv_iinc (v := nI (aa + 1)) (lv' := [(4, .int (nI (aa + 1))), (0, .ref (b 0)), (3, .int (nI (allC (fallB (rr (ma 0) (ma 1) o j)) (sqL (ma 0) (ma 1) o j).length (aa + 1)))), (5, .int (nI bb))]) hx hb dX4_haloTold_180 hl (k := 2) rfl (nI_incn _) (by decide) rfl (fun ls hl => ?_)
                refine lv_goto (tgt := 125) hx hb dX4_haloTold_183 (by decide) ?_
                exact ih_8 (aa + 1) ls (by omega) (by omega) (lv_sub hl [1, 2, 0] rfl)
              · have hbl : bb < (sqL (ma 0) (ma 1) o j).length := by omega
                have hal : aa < (sqL (ma 0) (ma 1) o j).length := by omega
                refine lv_iload_n hx hb dX4_haloTold_149 rfl (lv_at hl 1 rfl) ?_
                have j_12 : W p l e rmX4_haloTold s m [.ref (b 0), .int (nI j), .int (nI 6)].toArray below meth c H locs 0 0 Q (F0 m 172 ls [.int (nI (((fallB (rr (ma 0) (ma 1) o j)) aa bb).toNat)), .int (nI (allC (fallB (rr (ma 0) (ma 1) o j)) (sqL (ma 0) (ma 1) o j).length aa + rowC (fallB (rr (ma 0) (ma 1) o j)) aa bb))]) := by
                  refine x_iaddN hx hb dX4_haloTold_172 ?_
                  refine lv_istore_n (lv' := [(3, .int (nI ((allC (fallB (rr (ma 0) (ma 1) o j)) (sqL (ma 0) (ma 1) o j).length aa + rowC (fallB (rr (ma 0) (ma 1) o j)) aa bb) + (((fallB (rr (ma 0) (ma 1) o j)) aa bb).toNat)))), (0, .ref (b 0)), (4, .int (nI aa)), (5, .int (nI bb))]) hx hb dX4_haloTold_173 rfl hl (by decide) rfl (fun ls hl => ?_)
                  have hl : lv_has ls 6 [(3, .int (nI (allC (fallB (rr (ma 0) (ma 1) o j)) (sqL (ma 0) (ma 1) o j).length aa + rowC (fallB (rr (ma 0) (ma 1) o j)) aa (bb + 1)))), (0, .ref (b 0)), (4, .int (nI aa)), (5, .int (nI bb))] := by
                    have e9 : (allC (fallB (rr (ma 0) (ma 1) o j)) (sqL (ma 0) (ma 1) o j).length aa + rowC (fallB (rr (ma 0) (ma 1) o j)) aa (bb + 1)) = (allC (fallB (rr (ma 0) (ma 1) o j)) (sqL (ma 0) (ma 1) o j).length aa + rowC (fallB (rr (ma 0) (ma 1) o j)) aa bb) + (((fallB (rr (ma 0) (ma 1) o j)) aa bb).toNat) := by rw [rowC_succ (fallB (rr (ma 0) (ma 1) o j)) (show aa < bb by omega)]; omega
                    rw [e9]; exact hl
                  refine lv_iinc (v := nI (bb + 1)) (lv' := [(5, .int (nI (bb + 1))), (3, .int (nI (allC (fallB (rr (ma 0) (ma 1) o j)) (sqL (ma 0) (ma 1) o j).length aa + rowC (fallB (rr (ma 0) (ma 1) o j)) aa (bb + 1)))), (0, .ref (b 0)), (4, .int (nI aa))]) hx hb dX4_haloTold_174 hl (k := 3) rfl (nI_incn _) (by decide) rfl (fun ls hl => ?_)
                  refine lv_goto (tgt := 140) hx hb dX4_haloTold_177 (by decide) ?_
                  exact ih_10 (bb + 1) ls (by omega) (by omega) (by omega) (lv_sub hl [2, 1, 3, 0] rfl)
                refine lv_aload_n hx hb dX4_haloTold_150 rfl (lv_at hl 0 rfl) ?_
                refine x_get (T := TX4) (N := 11) (v := .ref (b 4)) hx hb hts in_X4 hown hK (hP 0 _ rfl) rfl 6 (by decide) k_f19 (fun _ h9 => h9) (rfl) dX4_haloTold_151 ?_
                refine lv_iload hx hb dX4_haloTold_154 (lv_at hl 3 rfl) ?_
                refine x_ialdN hx hb hK (hP 4 _ rfl) (by omega) (by decide) dX4_haloTold_156 ?_
                refine W.eq (g2 := F0 m 157 ls [.int (rr (ma 0) (ma 1) o j bb), .int (nI (allC (fallB (rr (ma 0) (ma 1) o j)) (sqL (ma 0) (ma 1) o j).length aa + rowC (fallB (rr (ma 0) (ma 1) o j)) aa bb))]) (congrArg (fun z => F0 m 157 ls (.int z :: [.int (nI (allC (fallB (rr (ma 0) (ma 1) o j)) (sqL (ma 0) (ma 1) o j).length aa + rowC (fallB (rr (ma 0) (ma 1) o j)) aa bb))])) (hrA1 bb hbl)) ?_
                refine lv_aload_n hx hb dX4_haloTold_157 rfl (lv_at hl 0 rfl) ?_
                refine x_get (T := TX4) (N := 11) (v := .ref (b 4)) hx hb hts in_X4 hown hK (hP 0 _ rfl) rfl 6 (by decide) k_f19 (fun _ h9 => h9) (rfl) dX4_haloTold_158 ?_
                refine lv_iload hx hb dX4_haloTold_161 (lv_at hl 2 rfl) ?_
                refine x_ialdN hx hb hK (hP 4 _ rfl) (by omega) (by decide) dX4_haloTold_163 ?_
                refine W.eq (g2 := F0 m 164 ls [.int (rr (ma 0) (ma 1) o j aa), .int (rr (ma 0) (ma 1) o j bb), .int (nI (allC (fallB (rr (ma 0) (ma 1) o j)) (sqL (ma 0) (ma 1) o j).length aa + rowC (fallB (rr (ma 0) (ma 1) o j)) aa bb))]) (congrArg (fun z => F0 m 164 ls (.int z :: [.int (rr (ma 0) (ma 1) o j bb), .int (nI (allC (fallB (rr (ma 0) (ma 1) o j)) (sqL (ma 0) (ma 1) o j).length aa + rowC (fallB (rr (ma 0) (ma 1) o j)) aa bb))])) (hrA1 aa hal)) ?_
                refine lv_icmp_ge (tgt := 171) hx hb dX4_haloTold_164 (by decide) (fun c_13 => ?_) (fun c_13 => ?_)
                · refine lv_iconst (v := nI 0) hx hb dX4_haloTold_171 (by decide +kernel) ?_
                  exact W.eq (g2 := F0 m 172 ls [.int (nI (((fallB (rr (ma 0) (ma 1) o j)) aa bb).toNat)), .int (nI (allC (fallB (rr (ma 0) (ma 1) o j)) (sqL (ma 0) (ma 1) o j).length aa + rowC (fallB (rr (ma 0) (ma 1) o j)) aa bb))]) (congrArg (fun z => F0 m 172 ls (.int z :: [.int (nI (allC (fallB (rr (ma 0) (ma 1) o j)) (sqL (ma 0) (ma 1) o j).length aa + rowC (fallB (rr (ma 0) (ma 1) o j)) aa bb))])) (congrArg nI (by rw [show (fallB (rr (ma 0) (ma 1) o j)) aa bb = false from decide_eq_false (Int32.not_lt.mpr c_13)]; rfl))) j_12
                · refine lv_iconst (v := nI 1) hx hb dX4_haloTold_167 (by decide +kernel) ?_
                  refine lv_goto (tgt := 172) hx hb dX4_haloTold_168 (by decide) ?_
                  exact W.eq (g2 := F0 m 172 ls [.int (nI (((fallB (rr (ma 0) (ma 1) o j)) aa bb).toNat)), .int (nI (allC (fallB (rr (ma 0) (ma 1) o j)) (sqL (ma 0) (ma 1) o j).length aa + rowC (fallB (rr (ma 0) (ma 1) o j)) aa bb))]) (congrArg (fun z => F0 m 172 ls (.int z :: [.int (nI (allC (fallB (rr (ma 0) (ma 1) o j)) (sqL (ma 0) (ma 1) o j).length aa + rowC (fallB (rr (ma 0) (ma 1) o j)) aa bb))])) (congrArg nI (by rw [show (fallB (rr (ma 0) (ma 1) o j)) aa bb = true from decide_eq_true (Int32.not_le.mp c_13)]; rfl))) j_12
          exact loop_10 _ (aa + 1) ls (Nat.lt_succ_self _) (Nat.le_refl _) (by omega) (lv_sub hl [1, 2, 3, 0] rfl)
    exact loop_8 _ 0 ls (Nat.lt_succ_self _) (Nat.zero_le _) (lv_sub hl [2, 1, 0] rfl)
abbrev rmX4_halo : Room := { frames := 6, cells := 0, slots := 0, locals := 141 }
theorem qdX4_halo : yX4_halo.cls = RX4 ∧ yX4_halo.cls ≠ "java/lang/invoke/MethodHandle" ∧ yX4_halo.cls ≠ "java/lang/invoke/VarHandle" ∧ (parseMethodDescriptor yX4_halo.desc).map (fun d => d.parameters.length) = some 2 := by decide +kernel
set_option maxHeartbeats 4000000 in
set_option maxRecDepth 100000 in
theorem c_X4_halo {l : Launch} {G : gT} {A : Nat → Prop} {b : Nat → Nat} {mi : Nat → Int32} {ma : Nat → Nat → Int32} {H0 : Heap} {n hn : Nat} {o : List Nat} {x1 x2 : Int32} (hP : mP G b mi ma H0) (hD : va_D A (mW G b mi ma)) (hmn : mi 1 = nI n) (hmh : mi 2 = nI hn) (hg : OK n hn (ma 0) (ma 1)) (ho : IsOrd (fun s => gL (ma 0) s 0) n o) : WrI G l yX4_halo wsX4_halo rmX4_halo [.ref (b 0), .int x1, .int x2] H0 A (fun r H1 => mQ G b n hn (ma 0) (ma 1) (k1 (vS hn x1 && inR (nI 0) (nI 6) x2)) (hv (ma 0) (ma 1) o x1.toNatClampNeg x2.toNatClampNeg) r H1) := by
  refine x_head (bytes := cX4_halo) (maxL := 3) (ret := (some .int)) (by decide) rfl (Nat.le_of_ble_eq_true rfl) ?_
  intro p e s m below meth c ls hx hb hml hown hts hr hlk hnm hK hs0 hl Q hQ
  have hl : lv_has ls 3 [(0, .ref (b 0)), (1, .int x1), (2, .int x2)] := hl
  have hC : CallFix p m c cX4_halo 3 s [.ref (b 0), .int x1, .int x2].toArray wsX4_halo RX4 := ⟨hx, hb, hml, hown, hts⟩
  have k_f25 := hts (.fieldLink RX4 25 "SundogLineModel" "thrown" "I") (by decide +kernel)
  have in_X4 : ∀ w ∈ u_ws RX4 TX4 11, w ∈ wsX4_halo := by decide +kernel
  have hS : va_S A H0 H0 [] := va_S.rf
  have hn12 := hg.n
  have hh16 := hg.hn
  refine lv_aload_n hx hb dX4_halo_0 rfl (lv_at hl 0 rfl) ?_
  refine lv_iconst (v := nI 0) hx hb dX4_halo_1 (by decide +kernel) ?_
  refine va_put (D := gD G) (ci := 4) (v := .int (nI 0)) (ty := .int) (C := RX4) (T := TX4) (N := 11) hx hb hts in_X4 tyX4 tyX4_ok nmX4 hown hK hP hD hS 0 rfl rfl 0 (by decide) k_f25 (fun _ h9 => h9) rfl (by decide +kernel) rfl rfl (Nat.le_of_ble_eq_true rfl) dX4_halo_2 (fun H locs hP hD hS => ?_)
  have hP : mP G b (va_up mi 0 (nI 0)) ma H := hP
  have hD : va_D A (mW G b (va_up mi 0 (nI 0)) ma) := hD
  refine lv_aload_n hx hb dX4_halo_5 rfl (lv_at hl 0 rfl) ?_
  refine lv_iload_n hx hb dX4_halo_6 rfl (lv_at hl 1 rfl) ?_
  refine x_rd (va_runV (As := [.int x1]) (rest := []) hC (c_X4_isHalo hP hmh) (cwV 1 hts gX4_halo_X4_isHalo rfl rfl rfl qdX4_isHalo ⟨Nat.le_of_ble_eq_true rfl, Nat.le_of_ble_eq_true rfl⟩) (x_preV hK (x_recv hK (hP 0 _ rfl) rfl)) rfl rfl hl.1 rfl (lv_room (Nat.le_of_ble_eq_true rfl)) dX4_halo_7 ⟨Nat.le_of_ble_eq_true rfl, Nat.le_of_ble_eq_true rfl⟩) ?_
  refine W.eq (g2 := F0 m 10 ls [.int (bI (vS hn x1))]) rfl ?_
  refine x_if_eqB (tgt := 32) hx hb dX4_halo_10 (by decide) (fun c_1 => ?_) (fun c_1 => ?_)
  · refine lv_aload_n hx hb dX4_halo_32 rfl (lv_at hl 0 rfl) ?_
    refine lv_iconst (v := nI 1) hx hb dX4_halo_33 (by decide +kernel) ?_
    refine x_runi (va_runV (As := [.int (nI 1)]) (rest := []) hC (c_X4_fail hP hD) (cwV 1 hts gX4_halo_X4_fail rfl rfl rfl qdX4_fail ⟨Nat.le_of_ble_eq_true rfl, Nat.le_of_ble_eq_true rfl⟩) (x_preV hK (x_recv hK (hP 0 _ rfl) rfl)) rfl rfl hl.1 rfl (lv_room (Nat.le_of_ble_eq_true rfl)) dX4_halo_34 ⟨Nat.le_of_ble_eq_true rfl, Nat.le_of_ble_eq_true rfl⟩) hS (fun _ h => h) (fun r_2 H locs hfr hΦ hS => ?_)
    obtain ⟨er_2, hP⟩ := hΦ
    rw [er_2]
    have hP : mP G b (va_up mi 0 (nI 1)) ma H := hP
    have hD : va_D A (mW G b (va_up mi 0 (nI 1)) ma) := hD.same rfl
    have hkk9 : k1 (vS hn x1 && inR (nI 0) (nI 6) x2) = 1 := by simp only [k1, k2, k3, Bool.and_true, Bool.true_and, Bool.and_false, Bool.false_and, Bool.not_true, Bool.not_false, c_1] <;> rfl
    have hkn9 : ¬ k1 (vS hn x1 && inR (nI 0) (nI 6) x2) = 0 := by rw [hkk9]; decide
    exact x_iret hQ hx hb hr rfl hlk hS.2.2 dX4_halo_37 ⟨hS.fr, mQ_mk (k0 := 1) hkk9 hP rfl (hmn) (hmh) (rfl) (rfl) (fun z => absurd z (by decide))⟩
  · refine lv_iload_n hx hb dX4_halo_13 rfl (lv_at hl 2 rfl) ?_
    refine lv_iconst (v := nI 0) hx hb dX4_halo_14 (by decide +kernel) ?_
    refine lv_bipush (v := nI 6) hx hb dX4_halo_15 (by decide +kernel) ?_
    refine x_rd (va_runS (As := [.int x2, .int (nI 0), .int (nI 6)]) (rest := []) hC (c_X4_isIn) (cwS 3 hts gX4_halo_X4_isIn rfl rfl rfl qdX4_isIn ⟨Nat.le_of_ble_eq_true rfl, Nat.le_of_ble_eq_true rfl⟩) (x_preS hK) rfl rfl hl.1 rfl (lv_room (Nat.le_of_ble_eq_true rfl)) dX4_halo_17 ⟨Nat.le_of_ble_eq_true rfl, Nat.le_of_ble_eq_true rfl⟩) ?_
    refine W.eq (g2 := F0 m 20 ls [.int (bI (inR (nI 0) (nI 6) x2))]) rfl ?_
    refine x_if_eqB (tgt := 32) hx hb dX4_halo_20 (by decide) (fun c_3 => ?_) (fun c_3 => ?_)
    · refine lv_aload_n hx hb dX4_halo_32 rfl (lv_at hl 0 rfl) ?_
      refine lv_iconst (v := nI 1) hx hb dX4_halo_33 (by decide +kernel) ?_
      refine x_runi (va_runV (As := [.int (nI 1)]) (rest := []) hC (c_X4_fail hP hD) (cwV 1 hts gX4_halo_X4_fail rfl rfl rfl qdX4_fail ⟨Nat.le_of_ble_eq_true rfl, Nat.le_of_ble_eq_true rfl⟩) (x_preV hK (x_recv hK (hP 0 _ rfl) rfl)) rfl rfl hl.1 rfl (lv_room (Nat.le_of_ble_eq_true rfl)) dX4_halo_34 ⟨Nat.le_of_ble_eq_true rfl, Nat.le_of_ble_eq_true rfl⟩) hS (fun _ h => h) (fun r_4 H locs hfr hΦ hS => ?_)
      obtain ⟨er_4, hP⟩ := hΦ
      rw [er_4]
      have hP : mP G b (va_up mi 0 (nI 1)) ma H := hP
      have hD : va_D A (mW G b (va_up mi 0 (nI 1)) ma) := hD.same rfl
      have hkk9 : k1 (vS hn x1 && inR (nI 0) (nI 6) x2) = 1 := by simp only [k1, k2, k3, Bool.and_true, Bool.true_and, Bool.and_false, Bool.false_and, Bool.not_true, Bool.not_false, c_1, c_3] <;> rfl
      have hkn9 : ¬ k1 (vS hn x1 && inR (nI 0) (nI 6) x2) = 0 := by rw [hkk9]; decide
      exact x_iret hQ hx hb hr rfl hlk hS.2.2 dX4_halo_37 ⟨hS.fr, mQ_mk (k0 := 1) hkk9 hP rfl (hmn) (hmh) (rfl) (rfl) (fun z => absurd z (by decide))⟩
    · obtain ⟨j, hj, rfl⟩ := inR_nat (show hn < 2 ^ 30 by omega) c_1
      obtain ⟨kk, hkk, rfl⟩ := inR_natL (n := 6) (by decide) c_3
      refine lv_aload_n hx hb dX4_halo_23 rfl (lv_at hl 0 rfl) ?_
      refine lv_iload_n hx hb dX4_halo_24 rfl (lv_at hl 1 rfl) ?_
      refine lv_iload_n hx hb dX4_halo_25 rfl (lv_at hl 2 rfl) ?_
      refine x_runi (va_runV (As := [.int (nI j), .int (nI kk)]) (rest := []) hC (c_X4_haloTold hP hD hg (by omega) hmn ho (by omega)) (cwV 2 hts gX4_halo_X4_haloTold rfl rfl rfl qdX4_haloTold ⟨Nat.le_of_ble_eq_true rfl, Nat.le_of_ble_eq_true rfl⟩) (x_preV hK (x_recv hK (hP 0 _ rfl) rfl)) rfl rfl hl.1 rfl (lv_room (Nat.le_of_ble_eq_true rfl)) dX4_halo_26 ⟨Nat.le_of_ble_eq_true rfl, Nat.le_of_ble_eq_true rfl⟩) hS (fun _ h => h) (fun r5 H locs hfr hΦ hS => ?_)
      obtain ⟨er5, sA5, rA5, vA5, hsA5, hrA5, hP⟩ := hΦ
      have hP : mP G b (va_up (va_up (va_up (va_up mi 0 (nI 0)) 3 (nI (sqL (ma 0) (ma 1) o j).length)) 4 (slp (ma 0) (ma 1) o j)) 5 (bas (ma 0) (ma 1) o j)) (va_up (va_up (va_up ma 2 sA5) 3 rA5) 4 vA5) H := hP
      have hD : va_D A (mW G b (va_up (va_up (va_up (va_up mi 0 (nI 0)) 3 (nI (sqL (ma 0) (ma 1) o j).length)) 4 (slp (ma 0) (ma 1) o j)) 5 (bas (ma 0) (ma 1) o j)) (va_up (va_up (va_up ma 2 sA5) 3 rA5) 4 vA5)) := hD.same rfl
      rw [er5]
      refine lv_goto (tgt := 37) hx hb dX4_halo_29 (by decide) ?_
      have hkk9 : k1 (vS hn (nI j) && inR (nI 0) (nI 6) (nI kk)) = 0 := by simp only [k1, k2, k3, Bool.and_true, Bool.true_and, Bool.and_false, Bool.false_and, Bool.not_true, Bool.not_false, c_1, c_3] <;> rfl
      exact x_iret hQ hx hb hr rfl hlk hS.2.2 dX4_halo_37 ⟨hS.fr, mQ_mk (k0 := 0) hkk9 hP rfl (hmn) (hmh) (rfl) (rfl) (fun _ => by rw [nI_clamp (show j < 2 ^ 31 by omega), nI_clamp (show kk < 2 ^ 31 by omega)])⟩
abbrev rmX4_guess : Room := { frames := 5, cells := 0, slots := 0, locals := 116 }
theorem qdX4_guess : yX4_guess.cls = RX4 ∧ yX4_guess.cls ≠ "java/lang/invoke/MethodHandle" ∧ yX4_guess.cls ≠ "java/lang/invoke/VarHandle" ∧ (parseMethodDescriptor yX4_guess.desc).map (fun d => d.parameters.length) = some 2 := by decide +kernel
set_option maxHeartbeats 4000000 in
set_option maxRecDepth 100000 in
theorem c_X4_guess {l : Launch} {G : gT} {A : Nat → Prop} {b : Nat → Nat} {mi : Nat → Int32} {ma : Nat → Nat → Int32} {H0 : Heap} {n hn : Nat} {o : List Nat} {x1 x2 : Int32} (hP : mP G b mi ma H0) (hD : va_D A (mW G b mi ma)) (hmn : mi 1 = nI n) (hmh : mi 2 = nI hn) (hg : OK n hn (ma 0) (ma 1)) (ho : IsOrd (fun s => gL (ma 0) s 0) n o) : WrI G l yX4_guess wsX4_guess rmX4_guess [.ref (b 0), .int x1, .int x2] H0 A (fun r H1 => mQ G b n hn (ma 0) (ma 1) (k1 (vS hn x1 && vS n x2)) (gue (ma 0) (ma 1) o x1.toNatClampNeg x2.toNatClampNeg) r H1) := by
  refine x_head (bytes := cX4_guess) (maxL := 3) (ret := (some .int)) (by decide) rfl (Nat.le_of_ble_eq_true rfl) ?_
  intro p e s m below meth c ls hx hb hml hown hts hr hlk hnm hK hs0 hl Q hQ
  have hl : lv_has ls 3 [(0, .ref (b 0)), (1, .int x1), (2, .int x2)] := hl
  have hC : CallFix p m c cX4_guess 3 s [.ref (b 0), .int x1, .int x2].toArray wsX4_guess RX4 := ⟨hx, hb, hml, hown, hts⟩
  have k_f25 := hts (.fieldLink RX4 25 "SundogLineModel" "thrown" "I") (by decide +kernel)
  have in_X4 : ∀ w ∈ u_ws RX4 TX4 11, w ∈ wsX4_guess := by decide +kernel
  have hS : va_S A H0 H0 [] := va_S.rf
  have hn12 := hg.n
  have hh16 := hg.hn
  refine lv_aload_n hx hb dX4_guess_0 rfl (lv_at hl 0 rfl) ?_
  refine lv_iconst (v := nI 0) hx hb dX4_guess_1 (by decide +kernel) ?_
  refine va_put (D := gD G) (ci := 4) (v := .int (nI 0)) (ty := .int) (C := RX4) (T := TX4) (N := 11) hx hb hts in_X4 tyX4 tyX4_ok nmX4 hown hK hP hD hS 0 rfl rfl 0 (by decide) k_f25 (fun _ h9 => h9) rfl (by decide +kernel) rfl rfl (Nat.le_of_ble_eq_true rfl) dX4_guess_2 (fun H locs hP hD hS => ?_)
  have hP : mP G b (va_up mi 0 (nI 0)) ma H := hP
  have hD : va_D A (mW G b (va_up mi 0 (nI 0)) ma) := hD
  refine lv_aload_n hx hb dX4_guess_5 rfl (lv_at hl 0 rfl) ?_
  refine lv_iload_n hx hb dX4_guess_6 rfl (lv_at hl 1 rfl) ?_
  refine x_rd (va_runV (As := [.int x1]) (rest := []) hC (c_X4_isHalo hP hmh) (cwV 1 hts gX4_guess_X4_isHalo rfl rfl rfl qdX4_isHalo ⟨Nat.le_of_ble_eq_true rfl, Nat.le_of_ble_eq_true rfl⟩) (x_preV hK (x_recv hK (hP 0 _ rfl) rfl)) rfl rfl hl.1 rfl (lv_room (Nat.le_of_ble_eq_true rfl)) dX4_guess_7 ⟨Nat.le_of_ble_eq_true rfl, Nat.le_of_ble_eq_true rfl⟩) ?_
  refine W.eq (g2 := F0 m 10 ls [.int (bI (vS hn x1))]) rfl ?_
  refine x_if_eqB (tgt := 21) hx hb dX4_guess_10 (by decide) (fun c_1 => ?_) (fun c_1 => ?_)
  · refine lv_aload_n hx hb dX4_guess_21 rfl (lv_at hl 0 rfl) ?_
    refine lv_iconst (v := nI 1) hx hb dX4_guess_22 (by decide +kernel) ?_
    refine x_runi (va_runV (As := [.int (nI 1)]) (rest := []) hC (c_X4_fail hP hD) (cwV 1 hts gX4_guess_X4_fail rfl rfl rfl qdX4_fail ⟨Nat.le_of_ble_eq_true rfl, Nat.le_of_ble_eq_true rfl⟩) (x_preV hK (x_recv hK (hP 0 _ rfl) rfl)) rfl rfl hl.1 rfl (lv_room (Nat.le_of_ble_eq_true rfl)) dX4_guess_23 ⟨Nat.le_of_ble_eq_true rfl, Nat.le_of_ble_eq_true rfl⟩) hS (fun _ h => h) (fun r_2 H locs hfr hΦ hS => ?_)
    obtain ⟨er_2, hP⟩ := hΦ
    rw [er_2]
    have hP : mP G b (va_up mi 0 (nI 1)) ma H := hP
    have hD : va_D A (mW G b (va_up mi 0 (nI 1)) ma) := hD.same rfl
    have hkk9 : k1 (vS hn x1 && vS n x2) = 1 := by simp only [k1, k2, k3, Bool.and_true, Bool.true_and, Bool.and_false, Bool.false_and, Bool.not_true, Bool.not_false, c_1] <;> rfl
    have hkn9 : ¬ k1 (vS hn x1 && vS n x2) = 0 := by rw [hkk9]; decide
    exact x_iret hQ hx hb hr rfl hlk hS.2.2 dX4_guess_26 ⟨hS.fr, mQ_mk (k0 := 1) hkk9 hP rfl (hmn) (hmh) (rfl) (rfl) (fun z => absurd z (by decide))⟩
  · refine lv_aload_n hx hb dX4_guess_13 rfl (lv_at hl 0 rfl) ?_
    refine lv_iload_n hx hb dX4_guess_14 rfl (lv_at hl 2 rfl) ?_
    refine x_rd (va_runV (As := [.int x2]) (rest := []) hC (c_X4_isStation hP hmn) (cwV 1 hts gX4_guess_X4_isStation rfl rfl rfl qdX4_isStation ⟨Nat.le_of_ble_eq_true rfl, Nat.le_of_ble_eq_true rfl⟩) (x_preV hK (x_recv hK (hP 0 _ rfl) rfl)) rfl rfl hl.1 rfl (lv_room (Nat.le_of_ble_eq_true rfl)) dX4_guess_15 ⟨Nat.le_of_ble_eq_true rfl, Nat.le_of_ble_eq_true rfl⟩) ?_
    refine W.eq (g2 := F0 m 18 ls [.int (bI (vS n x2))]) rfl ?_
    refine x_if_neB (tgt := 27) hx hb dX4_guess_18 (by decide) (fun c_3 => ?_) (fun c_3 => ?_)
    · obtain ⟨j, hj, rfl⟩ := inR_nat (show hn < 2 ^ 30 by omega) c_1
      obtain ⟨i, hi, rfl⟩ := inR_nat (show n < 2 ^ 30 by omega) c_3
      refine lv_aload_n hx hb dX4_guess_27 rfl (lv_at hl 0 rfl) ?_
      refine lv_iload_n hx hb dX4_guess_28 rfl (lv_at hl 1 rfl) ?_
      refine x_runv (va_runV (As := [.int (nI j)]) (rest := []) hC (c_X4_reckon hP hD hg (by omega) hmn ho) (cwV 1 hts gX4_guess_X4_reckon rfl rfl rfl qdX4_reckon ⟨Nat.le_of_ble_eq_true rfl, Nat.le_of_ble_eq_true rfl⟩) (x_preV hK (x_recv hK (hP 0 _ rfl) rfl)) rfl rfl hl.1 rfl (lv_room (Nat.le_of_ble_eq_true rfl)) dX4_guess_29 ⟨Nat.le_of_ble_eq_true rfl, Nat.le_of_ble_eq_true rfl⟩) hS (fun _ h => h) (fun H locs hfr hΦ hS => ?_)
      obtain ⟨sA4, rA4, vA4, hsA4, hrA4, hP⟩ := hΦ
      have hP : mP G b (va_up (va_up (va_up (va_up mi 0 (nI 0)) 3 (nI (sqL (ma 0) (ma 1) o j).length)) 4 (slp (ma 0) (ma 1) o j)) 5 (bas (ma 0) (ma 1) o j)) (va_up (va_up (va_up ma 2 sA4) 3 rA4) 4 vA4) H := hP
      have hD : va_D A (mW G b (va_up (va_up (va_up (va_up mi 0 (nI 0)) 3 (nI (sqL (ma 0) (ma 1) o j).length)) 4 (slp (ma 0) (ma 1) o j)) 5 (bas (ma 0) (ma 1) o j)) (va_up (va_up (va_up ma 2 sA4) 3 rA4) 4 vA4)) := hD.same rfl
      have hM4 : (sqL (ma 0) (ma 1) o j).length ≤ n := sqM_le ho
      refine lv_aload_n hx hb dX4_guess_32 rfl (lv_at hl 0 rfl) ?_
      refine lv_iload_n hx hb dX4_guess_33 rfl (lv_at hl 2 rfl) ?_
      refine x_rd (va_runV (As := [.int (nI i)]) (rest := []) hC (c_X4_guessOf (M := (sqL (ma 0) (ma 1) o j).length) hP (by omega) rfl (by omega)) (cwV 1 hts gX4_guess_X4_guessOf rfl rfl rfl qdX4_guessOf ⟨Nat.le_of_ble_eq_true rfl, Nat.le_of_ble_eq_true rfl⟩) (x_preV hK (x_recv hK (hP 0 _ rfl) rfl)) rfl rfl hl.1 rfl (lv_room (Nat.le_of_ble_eq_true rfl)) dX4_guess_34 ⟨Nat.le_of_ble_eq_true rfl, Nat.le_of_ble_eq_true rfl⟩) ?_
      refine W.eq (g2 := F0 m 37 ls [.int (gue (ma 0) (ma 1) o j i)]) rfl ?_
      have hkk9 : k1 (vS hn (nI j) && vS n (nI i)) = 0 := by simp only [k1, k2, k3, Bool.and_true, Bool.true_and, Bool.and_false, Bool.false_and, Bool.not_true, Bool.not_false, c_1, c_3] <;> rfl
      exact x_iret hQ hx hb hr rfl hlk hS.2.2 dX4_guess_37 ⟨hS.fr, mQ_mk (k0 := 0) hkk9 hP rfl (hmn) (hmh) (rfl) (rfl) (fun _ => by rw [nI_clamp (show j < 2 ^ 31 by omega), nI_clamp (show i < 2 ^ 31 by omega)])⟩
    · refine lv_aload_n hx hb dX4_guess_21 rfl (lv_at hl 0 rfl) ?_
      refine lv_iconst (v := nI 1) hx hb dX4_guess_22 (by decide +kernel) ?_
      refine x_runi (va_runV (As := [.int (nI 1)]) (rest := []) hC (c_X4_fail hP hD) (cwV 1 hts gX4_guess_X4_fail rfl rfl rfl qdX4_fail ⟨Nat.le_of_ble_eq_true rfl, Nat.le_of_ble_eq_true rfl⟩) (x_preV hK (x_recv hK (hP 0 _ rfl) rfl)) rfl rfl hl.1 rfl (lv_room (Nat.le_of_ble_eq_true rfl)) dX4_guess_23 ⟨Nat.le_of_ble_eq_true rfl, Nat.le_of_ble_eq_true rfl⟩) hS (fun _ h => h) (fun r_5 H locs hfr hΦ hS => ?_)
      obtain ⟨er_5, hP⟩ := hΦ
      rw [er_5]
      have hP : mP G b (va_up mi 0 (nI 1)) ma H := hP
      have hD : va_D A (mW G b (va_up mi 0 (nI 1)) ma) := hD.same rfl
      have hkk9 : k1 (vS hn x1 && vS n x2) = 1 := by simp only [k1, k2, k3, Bool.and_true, Bool.true_and, Bool.and_false, Bool.false_and, Bool.not_true, Bool.not_false, c_1, c_3] <;> rfl
      have hkn9 : ¬ k1 (vS hn x1 && vS n x2) = 0 := by rw [hkk9]; decide
      exact x_iret hQ hx hb hr rfl hlk hS.2.2 dX4_guess_26 ⟨hS.fr, mQ_mk (k0 := 1) hkk9 hP rfl (hmn) (hmh) (rfl) (rfl) (fun z => absurd z (by decide))⟩
/-- is i the odd one of a halo that more than 2 see -/
def blB (L T : Nat → Int32) (o : List Nat) (i h : Nat) : Bool := decide (2 < sqM L T o h) && decide (sq L T o h (oddI L T o h) = i)
abbrev rmX4_blame : Room := { frames := 5, cells := 0, slots := 0, locals := 116 }
theorem qdX4_blame : yX4_blame.cls = RX4 ∧ yX4_blame.cls ≠ "java/lang/invoke/MethodHandle" ∧ yX4_blame.cls ≠ "java/lang/invoke/VarHandle" ∧ (parseMethodDescriptor yX4_blame.desc).map (fun d => d.parameters.length) = some 1 := by decide +kernel
set_option maxHeartbeats 4000000 in
set_option maxRecDepth 100000 in
theorem c_X4_blame {l : Launch} {G : gT} {A : Nat → Prop} {b : Nat → Nat} {mi : Nat → Int32} {ma : Nat → Nat → Int32} {H0 : Heap} {n hn : Nat} {o : List Nat} {x1 : Int32} (hP : mP G b mi ma H0) (hD : va_D A (mW G b mi ma)) (hmn : mi 1 = nI n) (hmh : mi 2 = nI hn) (hg : OK n hn (ma 0) (ma 1)) (ho : IsOrd (fun s => gL (ma 0) s 0) n o) : WrI G l yX4_blame wsX4_blame rmX4_blame [.ref (b 0), .int x1] H0 A (fun r H1 => mQ G b n hn (ma 0) (ma 1) (k1 (vS n x1)) (nI (cnt (blB (ma 0) (ma 1) o x1.toNatClampNeg) hn)) r H1) := by
  refine x_head (bytes := cX4_blame) (maxL := 4) (ret := (some .int)) (by decide) rfl (Nat.le_of_ble_eq_true rfl) ?_
  intro p e s m below meth c ls hx hb hml hown hts hr hlk hnm hK hs0 hl Q hQ
  have hl : lv_has ls 4 [(0, .ref (b 0)), (1, .int x1)] := hl
  have hC : CallFix p m c cX4_blame 4 s [.ref (b 0), .int x1].toArray wsX4_blame RX4 := ⟨hx, hb, hml, hown, hts⟩
  have k_f25 := hts (.fieldLink RX4 25 "SundogLineModel" "thrown" "I") (by decide +kernel)
  have in_X4 : ∀ w ∈ u_ws RX4 TX4 11, w ∈ wsX4_blame := by decide +kernel
  have k_f37 := hts (.fieldLink RX4 37 "SundogLineModel" "halos" "I") (by decide +kernel)
  have k_f103 := hts (.fieldLink RX4 103 "SundogLineModel" "many" "I") (by decide +kernel)
  have k_f16 := hts (.fieldLink RX4 16 "SundogLineModel" "seers" "[I") (by decide +kernel)
  have hS : va_S A H0 H0 [] := va_S.rf
  have hn12 := hg.n
  have hh16 := hg.hn
  refine lv_aload_n hx hb dX4_blame_0 rfl (lv_at hl 0 rfl) ?_
  refine lv_iconst (v := nI 0) hx hb dX4_blame_1 (by decide +kernel) ?_
  refine va_put (D := gD G) (ci := 4) (v := .int (nI 0)) (ty := .int) (C := RX4) (T := TX4) (N := 11) hx hb hts in_X4 tyX4 tyX4_ok nmX4 hown hK hP hD hS 0 rfl rfl 0 (by decide) k_f25 (fun _ h9 => h9) rfl (by decide +kernel) rfl rfl (Nat.le_of_ble_eq_true rfl) dX4_blame_2 (fun H locs hP hD hS => ?_)
  have hP : mP G b (va_up mi 0 (nI 0)) ma H := hP
  have hD : va_D A (mW G b (va_up mi 0 (nI 0)) ma) := hD
  refine lv_aload_n hx hb dX4_blame_5 rfl (lv_at hl 0 rfl) ?_
  refine lv_iload_n hx hb dX4_blame_6 rfl (lv_at hl 1 rfl) ?_
  refine x_rd (va_runV (As := [.int x1]) (rest := []) hC (c_X4_isStation hP hmn) (cwV 1 hts gX4_blame_X4_isStation rfl rfl rfl qdX4_isStation ⟨Nat.le_of_ble_eq_true rfl, Nat.le_of_ble_eq_true rfl⟩) (x_preV hK (x_recv hK (hP 0 _ rfl) rfl)) rfl rfl hl.1 rfl (lv_room (Nat.le_of_ble_eq_true rfl)) dX4_blame_7 ⟨Nat.le_of_ble_eq_true rfl, Nat.le_of_ble_eq_true rfl⟩) ?_
  refine W.eq (g2 := F0 m 10 ls [.int (bI (vS n x1))]) rfl ?_
  refine x_if_neB (tgt := 19) hx hb dX4_blame_10 (by decide) (fun c_1 => ?_) (fun c_1 => ?_)
  · obtain ⟨i, hi, rfl⟩ := inR_nat (show n < 2 ^ 30 by omega) c_1
    refine lv_iconst (v := nI 0) hx hb dX4_blame_19 (by decide +kernel) ?_
    refine lv_istore_n (lv' := [(2, .int (nI 0)), (0, .ref (b 0)), (1, .int (nI i))]) hx hb dX4_blame_20 rfl hl (by decide) rfl (fun ls hl => ?_)
    refine lv_iconst (v := nI 0) hx hb dX4_blame_21 (by decide +kernel) ?_
    refine lv_istore_n (lv' := [(3, .int (nI 0)), (2, .int (nI 0)), (0, .ref (b 0)), (1, .int (nI i))]) hx hb dX4_blame_22 rfl hl (by decide) rfl (fun ls hl => ?_)
    have hP : mP G b (va_up (va_up (va_up (va_up mi 0 (nI 0)) 3 (mi 3)) 4 (mi 4)) 5 (mi 5)) (va_up (va_up (va_up ma 2 (ma 2)) 3 (ma 3)) 4 (ma 4)) H := hP
    have hD : va_D A (mW G b (va_up (va_up (va_up (va_up mi 0 (nI 0)) 3 (mi 3)) 4 (mi 4)) 5 (mi 5)) (va_up (va_up (va_up ma 2 (ma 2)) 3 (ma 3)) 4 (ma 4))) := hD.same rfl
    have loop_2 : ∀ (fu : Nat) (j : Nat) (x9 : Int32) (y9 : Int32) (z9 : Int32) (s9 : Nat → Int32) (r9 : Nat → Int32) (v9 : Nat → Int32) (H : Heap) (locs : List Loc) (ls : Array Slot), hn - j < fu → (j ≤ hn) → (va_P (gD G) vC (mW G b (va_up (va_up (va_up (va_up mi 0 (nI 0)) 3 x9) 4 y9) 5 z9) (va_up (va_up (va_up ma 2 s9) 3 r9) 4 v9)) H) → (va_S A H0 H locs) → lv_has ls 4 [(0, .ref (b 0)), (1, .int (nI i)), (2, .int (nI (cnt (blB (ma 0) (ma 1) o i) j))), (3, .int (nI j))] → W p l e rmX4_blame s m [.ref (b 0), .int (nI i)].toArray below meth c H locs 0 0 Q (F0 m 23 ls []) := by
      intro fu
      induction fu with
      | zero => intro j x9 y9 z9 s9 r9 v9 H locs ls hms hjn hP hS hl; exact absurd hms (Nat.not_lt_zero _)
      | succ fu ih_2 =>
        intro j x9 y9 z9 s9 r9 v9 H locs ls hms hjn hP hS hl
        have hD : va_D A (mW G b (va_up (va_up (va_up (va_up mi 0 (nI 0)) 3 x9) 4 y9) 5 z9) (va_up (va_up (va_up ma 2 s9) 3 r9) 4 v9)) := hD.same rfl
        refine lv_iload_n hx hb dX4_blame_23 rfl (lv_at hl 3 rfl) ?_
        refine lv_aload_n hx hb dX4_blame_24 rfl (lv_at hl 0 rfl) ?_
        refine x_get (T := TX4) (N := 11) (v := .int (nI hn)) hx hb hts in_X4 hown hK (hP 0 _ rfl) rfl 3 (by decide) k_f37 (fun _ h9 => h9) (congrArg (fun z => some (Value.int z)) hmh) dX4_blame_25 ?_
        refine x_icmp_ge (tgt := 71) hx hb (by first | omega | (have := sqM_le (L := ma 0) (T := ma 1) (h := j) ho; have := sq_lt (L := ma 0) (T := ma 1) (h := j) ho hod; omega)) (by first | omega | (have := sqM_le (L := ma 0) (T := ma 1) (h := j) ho; have := sq_lt (L := ma 0) (T := ma 1) (h := j) ho hod; omega)) dX4_blame_28 (by decide) (fun c_3 => ?_) (fun c_3 => ?_)
        · refine lv_iload_n hx hb dX4_blame_71 rfl (lv_at hl 2 rfl) ?_
          have hkk9 : k1 (vS n (nI i)) = 0 := by simp only [k1, k2, k3, Bool.and_true, Bool.true_and, Bool.and_false, Bool.false_and, Bool.not_true, Bool.not_false, c_1] <;> rfl
          exact x_iret hQ hx hb hr rfl hlk hS.2.2 dX4_blame_72 ⟨hS.fr, mQ_mk (k0 := 0) hkk9 hP rfl (hmn) (hmh) (rfl) (rfl) (fun _ => by rw [nI_clamp (show i < 2 ^ 31 by omega), show j = hn by omega])⟩
        · refine lv_aload_n hx hb dX4_blame_31 rfl (lv_at hl 0 rfl) ?_
          refine lv_iload_n hx hb dX4_blame_32 rfl (lv_at hl 3 rfl) ?_
          refine x_runv (va_runV (As := [.int (nI j)]) (rest := []) hC (c_X4_reckon hP hD hg (by omega) hmn ho) (cwV 1 hts gX4_blame_X4_reckon rfl rfl rfl qdX4_reckon ⟨Nat.le_of_ble_eq_true rfl, Nat.le_of_ble_eq_true rfl⟩) (x_preV hK (x_recv hK (hP 0 _ rfl) rfl)) rfl rfl hl.1 rfl (lv_room (Nat.le_of_ble_eq_true rfl)) dX4_blame_33 ⟨Nat.le_of_ble_eq_true rfl, Nat.le_of_ble_eq_true rfl⟩) hS (fun _ h => h) (fun H locs hfr hΦ hS => ?_)
          obtain ⟨sA4, rA4, vA4, hsA4, hrA4, hP⟩ := hΦ
          have hP : mP G b (va_up (va_up (va_up (va_up mi 0 (nI 0)) 3 (nI (sqL (ma 0) (ma 1) o j).length)) 4 (slp (ma 0) (ma 1) o j)) 5 (bas (ma 0) (ma 1) o j)) (va_up (va_up (va_up ma 2 sA4) 3 rA4) 4 vA4) H := hP
          have hD : va_D A (mW G b (va_up (va_up (va_up (va_up mi 0 (nI 0)) 3 (nI (sqL (ma 0) (ma 1) o j).length)) 4 (slp (ma 0) (ma 1) o j)) 5 (bas (ma 0) (ma 1) o j)) (va_up (va_up (va_up ma 2 sA4) 3 rA4) 4 vA4)) := hD.same rfl
          have hM4 : (sqL (ma 0) (ma 1) o j).length ≤ n := sqM_le ho
          refine lv_iload_n hx hb dX4_blame_36 rfl (lv_at hl 2 rfl) ?_
          have j_5 : W p l e rmX4_blame s m [.ref (b 0), .int (nI i)].toArray below meth c H locs 0 0 Q (F0 m 63 ls [.int (nI (((blB (ma 0) (ma 1) o i) j).toNat)), .int (nI (cnt (blB (ma 0) (ma 1) o i) j))]) := by
            refine x_iaddN hx hb dX4_blame_63 ?_
            refine lv_istore_n (lv' := [(2, .int (nI ((cnt (blB (ma 0) (ma 1) o i) j) + (((blB (ma 0) (ma 1) o i) j).toNat)))), (0, .ref (b 0)), (1, .int (nI i)), (3, .int (nI j))]) hx hb dX4_blame_64 rfl hl (by decide) rfl (fun ls hl => ?_)
            refine lv_iinc (v := nI (j + 1)) (lv' := [(3, .int (nI (j + 1))), (2, .int (nI ((cnt (blB (ma 0) (ma 1) o i) j) + (((blB (ma 0) (ma 1) o i) j).toNat)))), (0, .ref (b 0)), (1, .int (nI i))]) hx hb dX4_blame_65 hl (k := 3) rfl (nI_incn _) (by decide) rfl (fun ls hl => ?_)
            refine lv_goto (tgt := 23) hx hb dX4_blame_68 (by decide) ?_
            exact ih_2 (j + 1) (nI (sqL (ma 0) (ma 1) o j).length) (slp (ma 0) (ma 1) o j) (bas (ma 0) (ma 1) o j) sA4 rA4 vA4 _ _ ls (by omega) (by omega) (hP) (hS) (lv_sub hl [2, 3, 1, 0] rfl)
          refine lv_aload_n hx hb dX4_blame_37 rfl (lv_at hl 0 rfl) ?_
          refine x_get (T := TX4) (N := 11) (v := .int (nI ((sqL (ma 0) (ma 1) o j).length))) hx hb hts in_X4 hown hK (hP 0 _ rfl) rfl 7 (by decide) k_f103 (fun _ h9 => h9) (rfl) dX4_blame_38 ?_
          refine lv_iconst (v := nI 2) hx hb dX4_blame_41 (by decide +kernel) ?_
          refine x_icmp_le (tgt := 62) hx hb (by first | omega | (have := sqM_le (L := ma 0) (T := ma 1) (h := j) ho; have := sq_lt (L := ma 0) (T := ma 1) (h := j) ho hod; omega)) (by first | omega | (have := sqM_le (L := ma 0) (T := ma 1) (h := j) ho; have := sq_lt (L := ma 0) (T := ma 1) (h := j) ho hod; omega)) dX4_blame_42 (by decide) (fun c_6 => ?_) (fun c_6 => ?_)
          · refine lv_iconst (v := nI 0) hx hb dX4_blame_62 (by decide +kernel) ?_
            exact W.eq (g2 := F0 m 63 ls [.int (nI (((blB (ma 0) (ma 1) o i) j).toNat)), .int (nI (cnt (blB (ma 0) (ma 1) o i) j))]) (congrArg (fun z => F0 m 63 ls (.int z :: [.int (nI (cnt (blB (ma 0) (ma 1) o i) j))])) (congrArg nI (by rw [blB, decide_eq_false (Nat.not_lt.mpr c_6)]; rfl))) j_5
          · refine lv_aload_n hx hb dX4_blame_45 rfl (lv_at hl 0 rfl) ?_
            refine x_get (T := TX4) (N := 11) (v := .ref (b 3)) hx hb hts in_X4 hown hK (hP 0 _ rfl) rfl 5 (by decide) k_f16 (fun _ h9 => h9) (rfl) dX4_blame_46 ?_
            refine lv_aload_n hx hb dX4_blame_49 rfl (lv_at hl 0 rfl) ?_
            refine x_rd (va_runV (As := []) (rest := [.ref (b 3), .int (nI (cnt (blB (ma 0) (ma 1) o i) j))]) hC (c_X4_odd (q := sq (ma 0) (ma 1) o j) (M := (sqL (ma 0) (ma 1) o j).length) hP rfl (by omega) (by omega) hsA4 (fun k hk => Nat.lt_of_lt_of_le (sq_lt ho hk) hn12)) (cwV 0 hts gX4_blame_X4_odd rfl rfl rfl qdX4_odd ⟨Nat.le_of_ble_eq_true rfl, Nat.le_of_ble_eq_true rfl⟩) (x_preV hK (x_recv hK (hP 0 _ rfl) rfl)) rfl rfl hl.1 rfl (lv_room (Nat.le_of_ble_eq_true rfl)) dX4_blame_50 ⟨Nat.le_of_ble_eq_true rfl, Nat.le_of_ble_eq_true rfl⟩) ?_
            refine W.eq (g2 := F0 m 53 ls [.int (nI (oddI (ma 0) (ma 1) o j)), .ref (b 3), .int (nI (cnt (blB (ma 0) (ma 1) o i) j))]) (congrArg (fun z => F0 m 53 ls (.int z :: [.ref (b 3), .int (nI (cnt (blB (ma 0) (ma 1) o i) j))])) (congrArg nI (ob_congr _ (fun k hk => congrArg ab (by simp only [lfv, lf]; rw [show ((va_up (va_up (va_up ma 2 sA4) 3 rA4) 4 vA4)) 3 k = rr (ma 0) (ma 1) o j k from hrA4 k hk]; rfl)) (fun k hk => rfl)))) ?_
            have hod : oddI (ma 0) (ma 1) o j < (sqL (ma 0) (ma 1) o j).length := oddI_lt (by omega)
            refine x_ialdN hx hb hK (hP 3 _ rfl) (by omega) (by decide) dX4_blame_53 ?_
            refine W.eq (g2 := F0 m 54 ls [.int (nI (sq (ma 0) (ma 1) o j (oddI (ma 0) (ma 1) o j))), .int (nI (cnt (blB (ma 0) (ma 1) o i) j))]) (congrArg (fun z => F0 m 54 ls (.int z :: [.int (nI (cnt (blB (ma 0) (ma 1) o i) j))])) (hsA4 _ hod)) ?_
            refine lv_iload_n hx hb dX4_blame_54 rfl (lv_at hl 1 rfl) ?_
            refine x_icmp_ne (tgt := 62) hx hb (by first | omega | (have := sqM_le (L := ma 0) (T := ma 1) (h := j) ho; have := sq_lt (L := ma 0) (T := ma 1) (h := j) ho hod; omega)) (by first | omega | (have := sqM_le (L := ma 0) (T := ma 1) (h := j) ho; have := sq_lt (L := ma 0) (T := ma 1) (h := j) ho hod; omega)) dX4_blame_55 (by decide) (fun c_7 => ?_) (fun c_7 => ?_)
            · refine lv_iconst (v := nI 0) hx hb dX4_blame_62 (by decide +kernel) ?_
              exact W.eq (g2 := F0 m 63 ls [.int (nI (((blB (ma 0) (ma 1) o i) j).toNat)), .int (nI (cnt (blB (ma 0) (ma 1) o i) j))]) (congrArg (fun z => F0 m 63 ls (.int z :: [.int (nI (cnt (blB (ma 0) (ma 1) o i) j))])) (congrArg nI (by rw [blB, decide_eq_true c_6, decide_eq_false c_7]; rfl))) j_5
            · refine lv_iconst (v := nI 1) hx hb dX4_blame_58 (by decide +kernel) ?_
              refine lv_goto (tgt := 63) hx hb dX4_blame_59 (by decide) ?_
              exact W.eq (g2 := F0 m 63 ls [.int (nI (((blB (ma 0) (ma 1) o i) j).toNat)), .int (nI (cnt (blB (ma 0) (ma 1) o i) j))]) (congrArg (fun z => F0 m 63 ls (.int z :: [.int (nI (cnt (blB (ma 0) (ma 1) o i) j))])) (congrArg nI (by rw [blB, decide_eq_true c_6, decide_eq_true c_7]; rfl))) j_5
    exact loop_2 _ 0 (mi 3) (mi 4) (mi 5) (ma 2) (ma 3) (ma 4) _ _ ls (Nat.lt_succ_self _) (Nat.zero_le _) (hP) (hS) (lv_sub hl [2, 3, 1, 0] rfl)
  · refine lv_aload_n hx hb dX4_blame_13 rfl (lv_at hl 0 rfl) ?_
    refine lv_iconst (v := nI 1) hx hb dX4_blame_14 (by decide +kernel) ?_
    refine x_runi (va_runV (As := [.int (nI 1)]) (rest := []) hC (c_X4_fail hP hD) (cwV 1 hts gX4_blame_X4_fail rfl rfl rfl qdX4_fail ⟨Nat.le_of_ble_eq_true rfl, Nat.le_of_ble_eq_true rfl⟩) (x_preV hK (x_recv hK (hP 0 _ rfl) rfl)) rfl rfl hl.1 rfl (lv_room (Nat.le_of_ble_eq_true rfl)) dX4_blame_15 ⟨Nat.le_of_ble_eq_true rfl, Nat.le_of_ble_eq_true rfl⟩) hS (fun _ h => h) (fun r_8 H locs hfr hΦ hS => ?_)
    obtain ⟨er_8, hP⟩ := hΦ
    rw [er_8]
    have hP : mP G b (va_up mi 0 (nI 1)) ma H := hP
    have hD : va_D A (mW G b (va_up mi 0 (nI 1)) ma) := hD.same rfl
    have hkk9 : k1 (vS n x1) = 1 := by simp only [k1, k2, k3, Bool.and_true, Bool.true_and, Bool.and_false, Bool.false_and, Bool.not_true, Bool.not_false, c_1] <;> rfl
    have hkn9 : ¬ k1 (vS n x1) = 0 := by rw [hkk9]; decide
    exact x_iret hQ hx hb hr rfl hlk hS.2.2 dX4_blame_18 ⟨hS.fr, mQ_mk (k0 := 1) hkk9 hP rfl (hmn) (hmh) (rfl) (rfl) (fun z => absurd z (by decide))⟩
abbrev rmX4_wire : Room := { frames := 2, cells := 0, slots := 0, locals := 44 }
theorem qdX4_wire : yX4_wire.cls = RX4 ∧ yX4_wire.cls ≠ "java/lang/invoke/MethodHandle" ∧ yX4_wire.cls ≠ "java/lang/invoke/VarHandle" ∧ (parseMethodDescriptor yX4_wire.desc).map (fun d => d.parameters.length) = some 3 := by decide +kernel
set_option maxHeartbeats 4000000 in
set_option maxRecDepth 100000 in
theorem c_X4_wire {l : Launch} {G : gT} {A : Nat → Prop} {b : Nat → Nat} {mi : Nat → Int32} {ma : Nat → Nat → Int32} {H0 : Heap} {n hn : Nat} {x1 x2 x3 : Int32} (hP : mP G b mi ma H0) (hD : va_D A (mW G b mi ma)) (hmn : mi 1 = nI n) (hmh : mi 2 = nI hn) (hg : OK n hn (ma 0) (ma 1)) : WrI G l yX4_wire wsX4_wire rmX4_wire [.ref (b 0), .int x1, .int x2, .int x3] H0 A (fun r H1 => mQ G b n hn (ma 0) (ma 1) (k2 (vS n x1 && vS n x2) (isT x3)) (clk (ma 0) x2.toNatClampNeg (x3 + ab (gL (ma 0) x1.toNatClampNeg 0 - gL (ma 0) x2.toNatClampNeg 0) / nI 3) - clk (ma 0) x1.toNatClampNeg x3) r H1) := by
  refine x_head (bytes := cX4_wire) (maxL := 4) (ret := (some .int)) (by decide) rfl (Nat.le_of_ble_eq_true rfl) ?_
  intro p e s m below meth c ls hx hb hml hown hts hr hlk hnm hK hs0 hl Q hQ
  have hl : lv_has ls 4 [(0, .ref (b 0)), (1, .int x1), (2, .int x2), (3, .int x3)] := hl
  have hC : CallFix p m c cX4_wire 4 s [.ref (b 0), .int x1, .int x2, .int x3].toArray wsX4_wire RX4 := ⟨hx, hb, hml, hown, hts⟩
  have k_f25 := hts (.fieldLink RX4 25 "SundogLineModel" "thrown" "I") (by decide +kernel)
  have in_X4 : ∀ w ∈ u_ws RX4 TX4 11, w ∈ wsX4_wire := by decide +kernel
  have k_m83 := hts (.methodLink RX4 83 Lib.Math.abs.name) (by decide +kernel)
  have k_msabs := hts (.static Lib.Math.abs.name) (by decide +kernel)
  have k_mi := hts (.initialized "java/lang/Math") (by decide +kernel)
  have k_mcabs := hts (.code Lib.Math.abs.name Lib.Math.abs.code 1 (some .int)) (by decide +kernel)
  have hS : va_S A H0 H0 [] := va_S.rf
  have hn12 := hg.n
  have hh16 := hg.hn
  refine lv_aload_n hx hb dX4_wire_0 rfl (lv_at hl 0 rfl) ?_
  refine lv_iconst (v := nI 0) hx hb dX4_wire_1 (by decide +kernel) ?_
  refine va_put (D := gD G) (ci := 4) (v := .int (nI 0)) (ty := .int) (C := RX4) (T := TX4) (N := 11) hx hb hts in_X4 tyX4 tyX4_ok nmX4 hown hK hP hD hS 0 rfl rfl 0 (by decide) k_f25 (fun _ h9 => h9) rfl (by decide +kernel) rfl rfl (Nat.le_of_ble_eq_true rfl) dX4_wire_2 (fun H locs hP hD hS => ?_)
  have hP : mP G b (va_up mi 0 (nI 0)) ma H := hP
  have hD : va_D A (mW G b (va_up mi 0 (nI 0)) ma) := hD
  refine lv_aload_n hx hb dX4_wire_5 rfl (lv_at hl 0 rfl) ?_
  refine lv_iload_n hx hb dX4_wire_6 rfl (lv_at hl 1 rfl) ?_
  refine x_rd (va_runV (As := [.int x1]) (rest := []) hC (c_X4_isStation hP hmn) (cwV 1 hts gX4_wire_X4_isStation rfl rfl rfl qdX4_isStation ⟨Nat.le_of_ble_eq_true rfl, Nat.le_of_ble_eq_true rfl⟩) (x_preV hK (x_recv hK (hP 0 _ rfl) rfl)) rfl rfl hl.1 rfl (lv_room (Nat.le_of_ble_eq_true rfl)) dX4_wire_7 ⟨Nat.le_of_ble_eq_true rfl, Nat.le_of_ble_eq_true rfl⟩) ?_
  refine W.eq (g2 := F0 m 10 ls [.int (bI (vS n x1))]) rfl ?_
  refine x_if_eqB (tgt := 21) hx hb dX4_wire_10 (by decide) (fun c_1 => ?_) (fun c_1 => ?_)
  · refine lv_aload_n hx hb dX4_wire_21 rfl (lv_at hl 0 rfl) ?_
    refine lv_iconst (v := nI 1) hx hb dX4_wire_22 (by decide +kernel) ?_
    refine x_runi (va_runV (As := [.int (nI 1)]) (rest := []) hC (c_X4_fail hP hD) (cwV 1 hts gX4_wire_X4_fail rfl rfl rfl qdX4_fail ⟨Nat.le_of_ble_eq_true rfl, Nat.le_of_ble_eq_true rfl⟩) (x_preV hK (x_recv hK (hP 0 _ rfl) rfl)) rfl rfl hl.1 rfl (lv_room (Nat.le_of_ble_eq_true rfl)) dX4_wire_23 ⟨Nat.le_of_ble_eq_true rfl, Nat.le_of_ble_eq_true rfl⟩) hS (fun _ h => h) (fun r_2 H locs hfr hΦ hS => ?_)
    obtain ⟨er_2, hP⟩ := hΦ
    rw [er_2]
    have hP : mP G b (va_up mi 0 (nI 1)) ma H := hP
    have hD : va_D A (mW G b (va_up mi 0 (nI 1)) ma) := hD.same rfl
    have hkk9 : k2 (vS n x1 && vS n x2) (isT x3) = 1 := by simp only [k1, k2, k3, Bool.and_true, Bool.true_and, Bool.and_false, Bool.false_and, Bool.not_true, Bool.not_false, c_1] <;> rfl
    have hkn9 : ¬ k2 (vS n x1 && vS n x2) (isT x3) = 0 := by rw [hkk9]; decide
    exact x_iret hQ hx hb hr rfl hlk hS.2.2 dX4_wire_26 ⟨hS.fr, mQ_mk (k0 := 1) hkk9 hP rfl (hmn) (hmh) (rfl) (rfl) (fun z => absurd z (by decide))⟩
  · refine lv_aload_n hx hb dX4_wire_13 rfl (lv_at hl 0 rfl) ?_
    refine lv_iload_n hx hb dX4_wire_14 rfl (lv_at hl 2 rfl) ?_
    refine x_rd (va_runV (As := [.int x2]) (rest := []) hC (c_X4_isStation hP hmn) (cwV 1 hts gX4_wire_X4_isStation rfl rfl rfl qdX4_isStation ⟨Nat.le_of_ble_eq_true rfl, Nat.le_of_ble_eq_true rfl⟩) (x_preV hK (x_recv hK (hP 0 _ rfl) rfl)) rfl rfl hl.1 rfl (lv_room (Nat.le_of_ble_eq_true rfl)) dX4_wire_15 ⟨Nat.le_of_ble_eq_true rfl, Nat.le_of_ble_eq_true rfl⟩) ?_
    refine W.eq (g2 := F0 m 18 ls [.int (bI (vS n x2))]) rfl ?_
    refine x_if_neB (tgt := 27) hx hb dX4_wire_18 (by decide) (fun c_3 => ?_) (fun c_3 => ?_)
    · refine lv_iload_n hx hb dX4_wire_27 rfl (lv_at hl 3 rfl) ?_
      refine x_rd (va_runS (As := [.int x3]) (rest := []) hC (c_X4_isTime) (cwS 1 hts gX4_wire_X4_isTime rfl rfl rfl qdX4_isTime ⟨Nat.le_of_ble_eq_true rfl, Nat.le_of_ble_eq_true rfl⟩) (x_preS hK) rfl rfl hl.1 rfl (lv_room (Nat.le_of_ble_eq_true rfl)) dX4_wire_28 ⟨Nat.le_of_ble_eq_true rfl, Nat.le_of_ble_eq_true rfl⟩) ?_
      refine W.eq (g2 := F0 m 31 ls [.int (bI (inR (nI 0) (nI 1000000) x3))]) rfl ?_
      refine x_if_neB (tgt := 40) hx hb dX4_wire_31 (by decide) (fun c_4 => ?_) (fun c_4 => ?_)
      · obtain ⟨i, hi, rfl⟩ := inR_nat (show n < 2 ^ 30 by omega) c_1
        obtain ⟨j, hj, rfl⟩ := inR_nat (show n < 2 ^ 30 by omega) c_3
        refine lv_aload_n hx hb dX4_wire_40 rfl (lv_at hl 0 rfl) ?_
        refine lv_iload_n hx hb dX4_wire_41 rfl (lv_at hl 2 rfl) ?_
        refine lv_iload_n hx hb dX4_wire_42 rfl (lv_at hl 3 rfl) ?_
        refine lv_aload_n hx hb dX4_wire_43 rfl (lv_at hl 0 rfl) ?_
        refine lv_iload_n hx hb dX4_wire_44 rfl (lv_at hl 1 rfl) ?_
        refine lv_iconst (v := nI 0) hx hb dX4_wire_45 (by decide +kernel) ?_
        refine x_rd (va_runV (As := [.int (nI i), .int (nI 0)]) (rest := [.int x3, .int (nI j), .ref (b 0)]) hC (c_X4_get hP (by omega) (by omega)) (cwV 2 hts gX4_wire_X4_get rfl rfl rfl qdX4_get ⟨Nat.le_of_ble_eq_true rfl, Nat.le_of_ble_eq_true rfl⟩) (x_preV hK (x_recv hK (hP 0 _ rfl) rfl)) rfl rfl hl.1 rfl (lv_room (Nat.le_of_ble_eq_true rfl)) dX4_wire_46 ⟨Nat.le_of_ble_eq_true rfl, Nat.le_of_ble_eq_true rfl⟩) ?_
        refine W.eq (g2 := F0 m 49 ls [.int (gL (ma 0) i 0), .int x3, .int (nI j), .ref (b 0)]) rfl ?_
        refine lv_aload_n hx hb dX4_wire_49 rfl (lv_at hl 0 rfl) ?_
        refine lv_iload_n hx hb dX4_wire_50 rfl (lv_at hl 2 rfl) ?_
        refine lv_iconst (v := nI 0) hx hb dX4_wire_51 (by decide +kernel) ?_
        refine x_rd (va_runV (As := [.int (nI j), .int (nI 0)]) (rest := [.int (gL (ma 0) i 0), .int x3, .int (nI j), .ref (b 0)]) hC (c_X4_get hP (by omega) (by omega)) (cwV 2 hts gX4_wire_X4_get rfl rfl rfl qdX4_get ⟨Nat.le_of_ble_eq_true rfl, Nat.le_of_ble_eq_true rfl⟩) (x_preV hK (x_recv hK (hP 0 _ rfl) rfl)) rfl rfl hl.1 rfl (lv_room (Nat.le_of_ble_eq_true rfl)) dX4_wire_52 ⟨Nat.le_of_ble_eq_true rfl, Nat.le_of_ble_eq_true rfl⟩) ?_
        refine W.eq (g2 := F0 m 55 ls [.int (gL (ma 0) j 0), .int (gL (ma 0) i 0), .int x3, .int (nI j), .ref (b 0)]) rfl ?_
        refine lv_isub hx hb dX4_wire_55 ?_
        refine va_mabs hx hb (hml.trans hl.1.symm) hown k_m83 k_msabs k_mi k_mcabs (by decide) (Nat.le_of_ble_eq_true rfl) (Nat.zero_le _) (Nat.zero_le _) dX4_wire_56 ?_
        refine W.eq (g2 := F0 m 59 ls [.int (ab ((gL (ma 0) i 0) - (gL (ma 0) j 0))), .int x3, .int (nI j), .ref (b 0)]) rfl ?_
        refine lv_iconst (v := nI 3) hx hb dX4_wire_59 (by decide +kernel) ?_
        refine lv_idiv hx hb dX4_wire_60 (by decide) ?_
        refine lv_iadd hx hb dX4_wire_61 ?_
        refine x_rd (va_runV (As := [.int (nI j), .int (x3 + ((ab ((gL (ma 0) i 0) - (gL (ma 0) j 0))) / (nI 3)))]) (rest := []) hC (c_X4_clockOf hP (by omega)) (cwV 2 hts gX4_wire_X4_clockOf rfl rfl rfl qdX4_clockOf ⟨Nat.le_of_ble_eq_true rfl, Nat.le_of_ble_eq_true rfl⟩) (x_preV hK (x_recv hK (hP 0 _ rfl) rfl)) rfl rfl hl.1 rfl (lv_room (Nat.le_of_ble_eq_true rfl)) dX4_wire_62 ⟨Nat.le_of_ble_eq_true rfl, Nat.le_of_ble_eq_true rfl⟩) ?_
        refine W.eq (g2 := F0 m 65 ls [.int (clk (ma 0) j (x3 + ((ab ((gL (ma 0) i 0) - (gL (ma 0) j 0))) / (nI 3))))]) rfl ?_
        refine lv_aload_n hx hb dX4_wire_65 rfl (lv_at hl 0 rfl) ?_
        refine lv_iload_n hx hb dX4_wire_66 rfl (lv_at hl 1 rfl) ?_
        refine lv_iload_n hx hb dX4_wire_67 rfl (lv_at hl 3 rfl) ?_
        refine x_rd (va_runV (As := [.int (nI i), .int x3]) (rest := [.int (clk (ma 0) j (x3 + ((ab ((gL (ma 0) i 0) - (gL (ma 0) j 0))) / (nI 3))))]) hC (c_X4_clockOf hP (by omega)) (cwV 2 hts gX4_wire_X4_clockOf rfl rfl rfl qdX4_clockOf ⟨Nat.le_of_ble_eq_true rfl, Nat.le_of_ble_eq_true rfl⟩) (x_preV hK (x_recv hK (hP 0 _ rfl) rfl)) rfl rfl hl.1 rfl (lv_room (Nat.le_of_ble_eq_true rfl)) dX4_wire_68 ⟨Nat.le_of_ble_eq_true rfl, Nat.le_of_ble_eq_true rfl⟩) ?_
        refine W.eq (g2 := F0 m 71 ls [.int (clk (ma 0) i x3), .int (clk (ma 0) j (x3 + ((ab ((gL (ma 0) i 0) - (gL (ma 0) j 0))) / (nI 3))))]) rfl ?_
        refine lv_isub hx hb dX4_wire_71 ?_
        have hkk9 : k2 (vS n (nI i) && vS n (nI j)) (isT x3) = 0 := by simp only [k1, k2, k3, Bool.and_true, Bool.true_and, Bool.and_false, Bool.false_and, Bool.not_true, Bool.not_false, c_1, c_3, c_4] <;> rfl
        exact x_iret hQ hx hb hr rfl hlk hS.2.2 dX4_wire_72 ⟨hS.fr, mQ_mk (k0 := 0) hkk9 hP rfl (hmn) (hmh) (rfl) (rfl) (fun _ => by rw [nI_clamp (show i < 2 ^ 31 by omega), nI_clamp (show j < 2 ^ 31 by omega)])⟩
      · refine lv_aload_n hx hb dX4_wire_34 rfl (lv_at hl 0 rfl) ?_
        refine lv_iconst (v := nI 2) hx hb dX4_wire_35 (by decide +kernel) ?_
        refine x_runi (va_runV (As := [.int (nI 2)]) (rest := []) hC (c_X4_fail hP hD) (cwV 1 hts gX4_wire_X4_fail rfl rfl rfl qdX4_fail ⟨Nat.le_of_ble_eq_true rfl, Nat.le_of_ble_eq_true rfl⟩) (x_preV hK (x_recv hK (hP 0 _ rfl) rfl)) rfl rfl hl.1 rfl (lv_room (Nat.le_of_ble_eq_true rfl)) dX4_wire_36 ⟨Nat.le_of_ble_eq_true rfl, Nat.le_of_ble_eq_true rfl⟩) hS (fun _ h => h) (fun r_5 H locs hfr hΦ hS => ?_)
        obtain ⟨er_5, hP⟩ := hΦ
        rw [er_5]
        have hP : mP G b (va_up mi 0 (nI 2)) ma H := hP
        have hD : va_D A (mW G b (va_up mi 0 (nI 2)) ma) := hD.same rfl
        have hkk9 : k2 (vS n x1 && vS n x2) (isT x3) = 2 := by simp only [k1, k2, k3, Bool.and_true, Bool.true_and, Bool.and_false, Bool.false_and, Bool.not_true, Bool.not_false, c_1, c_3, c_4] <;> rfl
        have hkn9 : ¬ k2 (vS n x1 && vS n x2) (isT x3) = 0 := by rw [hkk9]; decide
        exact x_iret hQ hx hb hr rfl hlk hS.2.2 dX4_wire_39 ⟨hS.fr, mQ_mk (k0 := 2) hkk9 hP rfl (hmn) (hmh) (rfl) (rfl) (fun z => absurd z (by decide))⟩
    · refine lv_aload_n hx hb dX4_wire_21 rfl (lv_at hl 0 rfl) ?_
      refine lv_iconst (v := nI 1) hx hb dX4_wire_22 (by decide +kernel) ?_
      refine x_runi (va_runV (As := [.int (nI 1)]) (rest := []) hC (c_X4_fail hP hD) (cwV 1 hts gX4_wire_X4_fail rfl rfl rfl qdX4_fail ⟨Nat.le_of_ble_eq_true rfl, Nat.le_of_ble_eq_true rfl⟩) (x_preV hK (x_recv hK (hP 0 _ rfl) rfl)) rfl rfl hl.1 rfl (lv_room (Nat.le_of_ble_eq_true rfl)) dX4_wire_23 ⟨Nat.le_of_ble_eq_true rfl, Nat.le_of_ble_eq_true rfl⟩) hS (fun _ h => h) (fun r_6 H locs hfr hΦ hS => ?_)
      obtain ⟨er_6, hP⟩ := hΦ
      rw [er_6]
      have hP : mP G b (va_up mi 0 (nI 1)) ma H := hP
      have hD : va_D A (mW G b (va_up mi 0 (nI 1)) ma) := hD.same rfl
      have hkk9 : k2 (vS n x1 && vS n x2) (isT x3) = 1 := by simp only [k1, k2, k3, Bool.and_true, Bool.true_and, Bool.and_false, Bool.false_and, Bool.not_true, Bool.not_false, c_1, c_3] <;> rfl
      have hkn9 : ¬ k2 (vS n x1 && vS n x2) (isT x3) = 0 := by rw [hkk9]; decide
      exact x_iret hQ hx hb hr rfl hlk hS.2.2 dX4_wire_26 ⟨hS.fr, mQ_mk (k0 := 1) hkk9 hP rfl (hmn) (hmh) (rfl) (rfl) (fun z => absurd z (by decide))⟩
/-- the greatest difference of two clocks, as the reference seeks it -/
def sp2 (L : Nat → Int32) (t : Int32) (a : Nat) (m : Int32) : Nat → Int32
  | 0 => m
  | c + 1 => mx (sp2 L t a m c) (clk L a t - clk L c t)
def spA (L : Nat → Int32) (t : Int32) (n : Nat) : Nat → Int32
  | 0 => nI 0
  | a + 1 => sp2 L t a (spA L t n a) n
abbrev rmX4_spread : Room := { frames := 2, cells := 0, slots := 0, locals := 44 }
theorem qdX4_spread : yX4_spread.cls = RX4 ∧ yX4_spread.cls ≠ "java/lang/invoke/MethodHandle" ∧ yX4_spread.cls ≠ "java/lang/invoke/VarHandle" ∧ (parseMethodDescriptor yX4_spread.desc).map (fun d => d.parameters.length) = some 1 := by decide +kernel
set_option maxHeartbeats 4000000 in
set_option maxRecDepth 100000 in
theorem c_X4_spread {l : Launch} {G : gT} {A : Nat → Prop} {b : Nat → Nat} {mi : Nat → Int32} {ma : Nat → Nat → Int32} {H0 : Heap} {n hn : Nat} {x1 : Int32} (hP : mP G b mi ma H0) (hD : va_D A (mW G b mi ma)) (hmn : mi 1 = nI n) (hmh : mi 2 = nI hn) (hg : OK n hn (ma 0) (ma 1)) : WrI G l yX4_spread wsX4_spread rmX4_spread [.ref (b 0), .int x1] H0 A (fun r H1 => mQ G b n hn (ma 0) (ma 1) (k1 (isT x1)) (spA (ma 0) x1 n n) r H1) := by
  refine x_head (bytes := cX4_spread) (maxL := 5) (ret := (some .int)) (by decide) rfl (Nat.le_of_ble_eq_true rfl) ?_
  intro p e s m below meth c ls hx hb hml hown hts hr hlk hnm hK hs0 hl Q hQ
  have hl : lv_has ls 5 [(0, .ref (b 0)), (1, .int x1)] := hl
  have hC : CallFix p m c cX4_spread 5 s [.ref (b 0), .int x1].toArray wsX4_spread RX4 := ⟨hx, hb, hml, hown, hts⟩
  have k_f25 := hts (.fieldLink RX4 25 "SundogLineModel" "thrown" "I") (by decide +kernel)
  have in_X4 : ∀ w ∈ u_ws RX4 TX4 11, w ∈ wsX4_spread := by decide +kernel
  have k_f34 := hts (.fieldLink RX4 34 "SundogLineModel" "stations" "I") (by decide +kernel)
  have k_m121 := hts (.methodLink RX4 121 Lib.Math.max.name) (by decide +kernel)
  have k_msmax := hts (.static Lib.Math.max.name) (by decide +kernel)
  have k_mi := hts (.initialized "java/lang/Math") (by decide +kernel)
  have k_mcmax := hts (.code Lib.Math.max.name Lib.Math.max.code 2 (some .int)) (by decide +kernel)
  have hS : va_S A H0 H0 [] := va_S.rf
  have hn12 := hg.n
  have hh16 := hg.hn
  refine lv_aload_n hx hb dX4_spread_0 rfl (lv_at hl 0 rfl) ?_
  refine lv_iconst (v := nI 0) hx hb dX4_spread_1 (by decide +kernel) ?_
  refine va_put (D := gD G) (ci := 4) (v := .int (nI 0)) (ty := .int) (C := RX4) (T := TX4) (N := 11) hx hb hts in_X4 tyX4 tyX4_ok nmX4 hown hK hP hD hS 0 rfl rfl 0 (by decide) k_f25 (fun _ h9 => h9) rfl (by decide +kernel) rfl rfl (Nat.le_of_ble_eq_true rfl) dX4_spread_2 (fun H locs hP hD hS => ?_)
  have hP : mP G b (va_up mi 0 (nI 0)) ma H := hP
  have hD : va_D A (mW G b (va_up mi 0 (nI 0)) ma) := hD
  refine lv_iload_n hx hb dX4_spread_5 rfl (lv_at hl 1 rfl) ?_
  refine x_rd (va_runS (As := [.int x1]) (rest := []) hC (c_X4_isTime) (cwS 1 hts gX4_spread_X4_isTime rfl rfl rfl qdX4_isTime ⟨Nat.le_of_ble_eq_true rfl, Nat.le_of_ble_eq_true rfl⟩) (x_preS hK) rfl rfl hl.1 rfl (lv_room (Nat.le_of_ble_eq_true rfl)) dX4_spread_6 ⟨Nat.le_of_ble_eq_true rfl, Nat.le_of_ble_eq_true rfl⟩) ?_
  refine W.eq (g2 := F0 m 9 ls [.int (bI (inR (nI 0) (nI 1000000) x1))]) rfl ?_
  refine x_if_neB (tgt := 18) hx hb dX4_spread_9 (by decide) (fun c_1 => ?_) (fun c_1 => ?_)
  · refine lv_iconst (v := nI 0) hx hb dX4_spread_18 (by decide +kernel) ?_
    refine lv_istore_n (lv' := [(2, .int (nI 0)), (0, .ref (b 0)), (1, .int x1)]) hx hb dX4_spread_19 rfl hl (by decide) rfl (fun ls hl => ?_)
    refine lv_iconst (v := nI 0) hx hb dX4_spread_20 (by decide +kernel) ?_
    refine lv_istore_n (lv' := [(3, .int (nI 0)), (2, .int (nI 0)), (0, .ref (b 0)), (1, .int x1)]) hx hb dX4_spread_21 rfl hl (by decide) rfl (fun ls hl => ?_)
    have loop_2 : ∀ (fu : Nat) (aa : Nat)  (ls : Array Slot), n - aa < fu → (aa ≤ n) → lv_has ls 5 [(0, .ref (b 0)), (1, .int x1), (2, .int (spA (ma 0) x1 n aa)), (3, .int (nI aa))] → W p l e rmX4_spread s m [.ref (b 0), .int x1].toArray below meth c H locs 0 0 Q (F0 m 22 ls []) := by
      intro fu
      induction fu with
      | zero => intro aa ls hms haa hl; exact absurd hms (Nat.not_lt_zero _)
      | succ fu ih_2 =>
        intro aa ls hms haa hl
        refine lv_iload_n hx hb dX4_spread_22 rfl (lv_at hl 3 rfl) ?_
        refine lv_aload_n hx hb dX4_spread_23 rfl (lv_at hl 0 rfl) ?_
        refine x_get (T := TX4) (N := 11) (v := .int (nI n)) hx hb hts in_X4 hown hK (hP 0 _ rfl) rfl 1 (by decide) k_f34 (fun _ h9 => h9) (congrArg (fun z => some (Value.int z)) hmn) dX4_spread_24 ?_
        refine x_icmp_ge (tgt := 73) hx hb (by omega) (by omega) dX4_spread_27 (by decide) (fun c_3 => ?_) (fun c_3 => ?_)
        · refine lv_iload_n hx hb dX4_spread_73 rfl (lv_at hl 2 rfl) ?_
          have hkk9 : k1 (isT x1) = 0 := by simp only [k1, k2, k3, Bool.and_true, Bool.true_and, Bool.and_false, Bool.false_and, Bool.not_true, Bool.not_false, c_1] <;> rfl
          exact x_iret hQ hx hb hr rfl hlk hS.2.2 dX4_spread_74 ⟨hS.fr, mQ_mk (k0 := 0) hkk9 hP rfl (hmn) (hmh) (rfl) (rfl) (fun _ => by rw [show aa = n by omega])⟩
        · refine lv_iconst (v := nI 0) hx hb dX4_spread_30 (by decide +kernel) ?_
          refine lv_istore (lv' := [(4, .int (nI 0)), (0, .ref (b 0)), (1, .int x1), (2, .int (spA (ma 0) x1 n aa)), (3, .int (nI aa))]) hx hb dX4_spread_31 hl (by decide) rfl (fun ls hl => ?_)
          have loop_4 : ∀ (fu : Nat) (bb : Nat)  (ls : Array Slot), n - bb < fu → (bb ≤ n) → lv_has ls 5 [(0, .ref (b 0)), (1, .int x1), (2, .int (sp2 (ma 0) x1 aa (spA (ma 0) x1 n aa) bb)), (3, .int (nI aa)), (4, .int (nI bb))] → W p l e rmX4_spread s m [.ref (b 0), .int x1].toArray below meth c H locs 0 0 Q (F0 m 33 ls []) := by
            intro fu
            induction fu with
            | zero => intro bb ls hms hbb hl; exact absurd hms (Nat.not_lt_zero _)
            | succ fu ih_4 =>
              intro bb ls hms hbb hl
              refine lv_iload hx hb dX4_spread_33 (lv_at hl 4 rfl) ?_
              refine lv_aload_n hx hb dX4_spread_35 rfl (lv_at hl 0 rfl) ?_
              refine x_get (T := TX4) (N := 11) (v := .int (nI n)) hx hb hts in_X4 hown hK (hP 0 _ rfl) rfl 1 (by decide) k_f34 (fun _ h9 => h9) (congrArg (fun z => some (Value.int z)) hmn) dX4_spread_36 ?_
              refine x_icmp_ge (tgt := 67) hx hb (by omega) (by omega) dX4_spread_39 (by decide) (fun c_5 => ?_) (fun c_5 => ?_)
              · have hl : lv_has ls 5 [(0, .ref (b 0)), (1, .int x1), (2, .int (spA (ma 0) x1 n (aa + 1))), (3, .int (nI aa)), (4, .int (nI bb))] := by
                  have e9 : spA (ma 0) x1 n (aa + 1) = sp2 (ma 0) x1 aa (spA (ma 0) x1 n aa) bb := by rw [show bb = n by omega]; rfl
                  rw [e9]; exact hl
                refine lv_iinc (v := nI (aa + 1)) (lv' := [(3, .int (nI (aa + 1))), (0, .ref (b 0)), (1, .int x1), (2, .int (spA (ma 0) x1 n (aa + 1))), (4, .int (nI bb))]) hx hb dX4_spread_67 hl (k := 3) rfl (nI_incn _) (by decide) rfl (fun ls hl => ?_)
                refine lv_goto (tgt := 22) hx hb dX4_spread_70 (by decide) ?_
                exact ih_2 (aa + 1) ls (by omega) (by omega) (lv_sub hl [1, 2, 3, 0] rfl)
              · refine lv_iload_n hx hb dX4_spread_42 rfl (lv_at hl 2 rfl) ?_
                refine lv_aload_n hx hb dX4_spread_43 rfl (lv_at hl 0 rfl) ?_
                refine lv_iload_n hx hb dX4_spread_44 rfl (lv_at hl 3 rfl) ?_
                refine lv_iload_n hx hb dX4_spread_45 rfl (lv_at hl 1 rfl) ?_
                refine x_rd (va_runV (As := [.int (nI aa), .int x1]) (rest := [.int (sp2 (ma 0) x1 aa (spA (ma 0) x1 n aa) bb)]) hC (c_X4_clockOf hP (by omega)) (cwV 2 hts gX4_spread_X4_clockOf rfl rfl rfl qdX4_clockOf ⟨Nat.le_of_ble_eq_true rfl, Nat.le_of_ble_eq_true rfl⟩) (x_preV hK (x_recv hK (hP 0 _ rfl) rfl)) rfl rfl hl.1 rfl (lv_room (Nat.le_of_ble_eq_true rfl)) dX4_spread_46 ⟨Nat.le_of_ble_eq_true rfl, Nat.le_of_ble_eq_true rfl⟩) ?_
                refine W.eq (g2 := F0 m 49 ls [.int (clk (ma 0) aa x1), .int (sp2 (ma 0) x1 aa (spA (ma 0) x1 n aa) bb)]) rfl ?_
                refine lv_aload_n hx hb dX4_spread_49 rfl (lv_at hl 0 rfl) ?_
                refine lv_iload hx hb dX4_spread_50 (lv_at hl 4 rfl) ?_
                refine lv_iload_n hx hb dX4_spread_52 rfl (lv_at hl 1 rfl) ?_
                refine x_rd (va_runV (As := [.int (nI bb), .int x1]) (rest := [.int (clk (ma 0) aa x1), .int (sp2 (ma 0) x1 aa (spA (ma 0) x1 n aa) bb)]) hC (c_X4_clockOf hP (by omega)) (cwV 2 hts gX4_spread_X4_clockOf rfl rfl rfl qdX4_clockOf ⟨Nat.le_of_ble_eq_true rfl, Nat.le_of_ble_eq_true rfl⟩) (x_preV hK (x_recv hK (hP 0 _ rfl) rfl)) rfl rfl hl.1 rfl (lv_room (Nat.le_of_ble_eq_true rfl)) dX4_spread_53 ⟨Nat.le_of_ble_eq_true rfl, Nat.le_of_ble_eq_true rfl⟩) ?_
                refine W.eq (g2 := F0 m 56 ls [.int (clk (ma 0) bb x1), .int (clk (ma 0) aa x1), .int (sp2 (ma 0) x1 aa (spA (ma 0) x1 n aa) bb)]) rfl ?_
                refine lv_isub hx hb dX4_spread_56 ?_
                refine va_mmax hx hb (hml.trans hl.1.symm) hown k_m121 k_msmax k_mi k_mcmax (by decide) (Nat.le_of_ble_eq_true rfl) (Nat.zero_le _) (Nat.zero_le _) dX4_spread_57 ?_
                refine W.eq (g2 := F0 m 60 ls [.int (mx (sp2 (ma 0) x1 aa (spA (ma 0) x1 n aa) bb) ((clk (ma 0) aa x1) - (clk (ma 0) bb x1)))]) rfl ?_
                refine lv_istore_n (lv' := [(2, .int (mx (sp2 (ma 0) x1 aa (spA (ma 0) x1 n aa) bb) ((clk (ma 0) aa x1) - (clk (ma 0) bb x1)))), (0, .ref (b 0)), (1, .int x1), (3, .int (nI aa)), (4, .int (nI bb))]) hx hb dX4_spread_60 rfl hl (by decide) rfl (fun ls hl => ?_)
                refine lv_iinc (v := nI (bb + 1)) (lv' := [(4, .int (nI (bb + 1))), (2, .int (mx (sp2 (ma 0) x1 aa (spA (ma 0) x1 n aa) bb) ((clk (ma 0) aa x1) - (clk (ma 0) bb x1)))), (0, .ref (b 0)), (1, .int x1), (3, .int (nI aa))]) hx hb dX4_spread_61 hl (k := 4) rfl (nI_incn _) (by decide) rfl (fun ls hl => ?_)
                refine lv_goto (tgt := 33) hx hb dX4_spread_64 (by decide) ?_
                exact ih_4 (bb + 1) ls (by omega) (by omega) (lv_sub hl [2, 3, 1, 4, 0] rfl)
          exact loop_4 _ 0 ls (Nat.lt_succ_self _) (Nat.zero_le _) (lv_sub hl [1, 2, 3, 4, 0] rfl)
    exact loop_2 _ 0 ls (Nat.lt_succ_self _) (Nat.zero_le _) (lv_sub hl [2, 3, 1, 0] rfl)
  · refine lv_aload_n hx hb dX4_spread_12 rfl (lv_at hl 0 rfl) ?_
    refine lv_iconst (v := nI 1) hx hb dX4_spread_13 (by decide +kernel) ?_
    refine x_runi (va_runV (As := [.int (nI 1)]) (rest := []) hC (c_X4_fail hP hD) (cwV 1 hts gX4_spread_X4_fail rfl rfl rfl qdX4_fail ⟨Nat.le_of_ble_eq_true rfl, Nat.le_of_ble_eq_true rfl⟩) (x_preV hK (x_recv hK (hP 0 _ rfl) rfl)) rfl rfl hl.1 rfl (lv_room (Nat.le_of_ble_eq_true rfl)) dX4_spread_14 ⟨Nat.le_of_ble_eq_true rfl, Nat.le_of_ble_eq_true rfl⟩) hS (fun _ h => h) (fun r_6 H locs hfr hΦ hS => ?_)
    obtain ⟨er_6, hP⟩ := hΦ
    rw [er_6]
    have hP : mP G b (va_up mi 0 (nI 1)) ma H := hP
    have hD : va_D A (mW G b (va_up mi 0 (nI 1)) ma) := hD.same rfl
    have hkk9 : k1 (isT x1) = 1 := by simp only [k1, k2, k3, Bool.and_true, Bool.true_and, Bool.and_false, Bool.false_and, Bool.not_true, Bool.not_false, c_1] <;> rfl
    have hkn9 : ¬ k1 (isT x1) = 0 := by rw [hkk9]; decide
    exact x_iret hQ hx hb hr rfl hlk hS.2.2 dX4_spread_17 ⟨hS.fr, mQ_mk (k0 := 1) hkk9 hP rfl (hmn) (hmh) (rfl) (rfl) (fun z => absurd z (by decide))⟩
def sumN (f : Nat → Nat) : Nat → Nat
  | 0 => 0
  | k + 1 => sumN f k + f k
theorem sumN_le {f : Nat → Nat} {m : Nat} : ∀ k, (∀ j, j < k → f j ≤ m) → sumN f k ≤ m * k := by
  intro k
  induction k with
  | zero => intro _; exact Nat.zero_le _
  | succ k ih =>
    intro h
    have h1 := ih (fun j hj => h j (by omega))
    have h2 := h k (by omega)
    show sumN f k + f k ≤ m * (k + 1)
    rw [Nat.mul_succ]; omega
/-- what count() tells -/
def cv (n hn : Nat) (L T : Nat → Int32) (o : List Nat) : Nat → Int32
  | 0 => nI n
  | 1 => nI hn
  | 2 => nI (sumN (fun h => sqM L T o h) hn)
  | 3 => nI (cnt (fun h => decide (sqM L T o h = 0)) hn)
  | _ => nI (sumN (fun s => nc L s) n)
abbrev rmX4_counted : Room := { frames := 5, cells := 0, slots := 0, locals := 116 }
theorem qdX4_counted : yX4_counted.cls = RX4 ∧ yX4_counted.cls ≠ "java/lang/invoke/MethodHandle" ∧ yX4_counted.cls ≠ "java/lang/invoke/VarHandle" ∧ (parseMethodDescriptor yX4_counted.desc).map (fun d => d.parameters.length) = some 1 := by decide +kernel
set_option maxHeartbeats 4000000 in
set_option maxRecDepth 100000 in
theorem c_X4_counted {l : Launch} {G : gT} {A : Nat → Prop} {b : Nat → Nat} {mi : Nat → Int32} {ma : Nat → Nat → Int32} {H0 : Heap} {n hn kk : Nat} {o : List Nat} (hP : mP G b mi ma H0) (hD : va_D A (mW G b mi ma)) (hmn : mi 1 = nI n) (hmh : mi 2 = nI hn) (hg : OK n hn (ma 0) (ma 1)) (ho : IsOrd (fun s => gL (ma 0) s 0) n o) (hkk : kk < 5) : WrI G l yX4_counted wsX4_counted rmX4_counted [.ref (b 0), .int (nI kk)] H0 A (fun r H1 => r = cv n hn (ma 0) (ma 1) o kk ∧ ∃ (x9 y9 z9 : Int32) (s9 r9 v9 : Nat → Int32), mP G b (mR mi x9 y9 z9) (aR ma s9 r9 v9) H1) := by
  refine x_head (bytes := cX4_counted) (maxL := 4) (ret := (some .int)) (by decide) rfl (Nat.le_of_ble_eq_true rfl) ?_
  intro p e s m below meth c ls hx hb hml hown hts hr hlk hnm hK hs0 hl Q hQ
  have hl : lv_has ls 4 [(0, .ref (b 0)), (1, .int (nI kk))] := hl
  have hC : CallFix p m c cX4_counted 4 s [.ref (b 0), .int (nI kk)].toArray wsX4_counted RX4 := ⟨hx, hb, hml, hown, hts⟩
  have k_f34 := hts (.fieldLink RX4 34 "SundogLineModel" "stations" "I") (by decide +kernel)
  have in_X4 : ∀ w ∈ u_ws RX4 TX4 11, w ∈ wsX4_counted := by decide +kernel
  have k_f37 := hts (.fieldLink RX4 37 "SundogLineModel" "halos" "I") (by decide +kernel)
  have k_f103 := hts (.fieldLink RX4 103 "SundogLineModel" "many" "I") (by decide +kernel)
  have hS : va_S A H0 H0 [] := va_S.rf
  have hn12 := hg.n
  have hh16 := hg.hn
  refine lv_iconst (v := nI 0) hx hb dX4_counted_0 (by decide +kernel) ?_
  refine lv_istore_n (lv' := [(2, .int (nI 0)), (0, .ref (b 0)), (1, .int (nI kk))]) hx hb dX4_counted_1 rfl hl (by decide) rfl (fun ls hl => ?_)
  refine lv_iload_n hx hb dX4_counted_2 rfl (lv_at hl 2 rfl) ?_
  rcases (show kk = 0 ∨ kk = 1 ∨ kk = 2 ∨ kk = 3 ∨ kk = 4 by omega) with rfl | rfl | rfl | rfl | rfl
  · refine lv_tableIn (off := 33) (tgt := 36) hx hb dX4_counted_3 (by decide) (by decide) (by decide) (by decide) ?_
    refine lv_aload_n hx hb dX4_counted_36 rfl (lv_at hl 1 rfl) ?_
    refine x_get (T := TX4) (N := 11) (v := .int (nI n)) hx hb hts in_X4 hown hK (hP 0 _ rfl) rfl 1 (by decide) k_f34 (fun _ h9 => h9) (congrArg (fun z => some (Value.int z)) hmn) dX4_counted_37 ?_
    exact x_iret hQ hx hb hr rfl hlk hS.2.2 dX4_counted_40 (⟨hS.fr, rfl, mi 3, mi 4, mi 5, ma 2, ma 3, ma 4, hP⟩)
  · refine lv_tableIn (off := 38) (tgt := 41) hx hb dX4_counted_3 (by decide) (by decide) (by decide) (by decide) ?_
    refine lv_aload_n hx hb dX4_counted_41 rfl (lv_at hl 1 rfl) ?_
    refine x_get (T := TX4) (N := 11) (v := .int (nI hn)) hx hb hts in_X4 hown hK (hP 0 _ rfl) rfl 3 (by decide) k_f37 (fun _ h9 => h9) (congrArg (fun z => some (Value.int z)) hmh) dX4_counted_42 ?_
    exact x_iret hQ hx hb hr rfl hlk hS.2.2 dX4_counted_45 (⟨hS.fr, rfl, mi 3, mi 4, mi 5, ma 2, ma 3, ma 4, hP⟩)
  · refine lv_tableIn (off := 70) (tgt := 73) hx hb dX4_counted_3 (by decide) (by decide) (by decide) (by decide) ?_
    refine lv_iconst (v := nI 0) hx hb dX4_counted_73 (by decide +kernel) ?_
    refine lv_istore_n (lv' := [(3, .int (nI 0)), (2, .int (nI 0)), (0, .ref (b 0)), (1, .int (nI 2))]) hx hb dX4_counted_74 rfl hl (by decide) rfl (fun ls hl => ?_)
    have hP : mP G b (va_up (va_up (va_up mi 3 (mi 3)) 4 (mi 4)) 5 (mi 5)) (va_up (va_up (va_up ma 2 (ma 2)) 3 (ma 3)) 4 (ma 4)) H0 := hP
    have hD : va_D A (mW G b (va_up (va_up (va_up mi 3 (mi 3)) 4 (mi 4)) 5 (mi 5)) (va_up (va_up (va_up ma 2 (ma 2)) 3 (ma 3)) 4 (ma 4))) := hD.same rfl
    have loop_1 : ∀ (fu : Nat) (j : Nat) (x9 : Int32) (y9 : Int32) (z9 : Int32) (s9 : Nat → Int32) (r9 : Nat → Int32) (v9 : Nat → Int32) (H : Heap) (locs : List Loc) (ls : Array Slot), hn - j < fu → (j ≤ hn) → (va_P (gD G) vC (mW G b (va_up (va_up (va_up mi 3 x9) 4 y9) 5 z9) (va_up (va_up (va_up ma 2 s9) 3 r9) 4 v9)) H) → (va_S A H0 H locs) → lv_has ls 4 [(0, .ref (b 0)), (1, .int (nI 2)), (2, .int (nI (sumN (fun h => sqM (ma 0) (ma 1) o h) j))), (3, .int (nI j))] → W p l e rmX4_counted s m [.ref (b 0), .int (nI 2)].toArray below meth c H locs 0 0 Q (F0 m 75 ls []) := by
      intro fu
      induction fu with
      | zero => intro j x9 y9 z9 s9 r9 v9 H locs ls hms hjn hP hS hl; exact absurd hms (Nat.not_lt_zero _)
      | succ fu ih_1 =>
        intro j x9 y9 z9 s9 r9 v9 H locs ls hms hjn hP hS hl
        have hD : va_D A (mW G b (va_up (va_up (va_up mi 3 x9) 4 y9) 5 z9) (va_up (va_up (va_up ma 2 s9) 3 r9) 4 v9)) := hD.same rfl
        refine lv_iload_n hx hb dX4_counted_75 rfl (lv_at hl 3 rfl) ?_
        refine lv_aload_n hx hb dX4_counted_76 rfl (lv_at hl 0 rfl) ?_
        refine x_get (T := TX4) (N := 11) (v := .int (nI hn)) hx hb hts in_X4 hown hK (hP 0 _ rfl) rfl 3 (by decide) k_f37 (fun _ h9 => h9) (congrArg (fun z => some (Value.int z)) hmh) dX4_counted_77 ?_
        refine x_icmp_ge (tgt := 121) hx hb (by omega) (by omega) dX4_counted_80 (by decide) (fun c_2 => ?_) (fun c_2 => ?_)
        · refine lv_iload_n hx hb dX4_counted_121 rfl (lv_at hl 2 rfl) ?_
          exact x_iret hQ hx hb hr rfl hlk hS.2.2 dX4_counted_122 (⟨hS.fr, by show _ = nI (sumN (fun h => sqM (ma 0) (ma 1) o h) hn); rw [show j = hn by omega], x9, y9, z9, s9, r9, v9, hP⟩)
        · refine lv_aload_n hx hb dX4_counted_83 rfl (lv_at hl 0 rfl) ?_
          refine lv_iload_n hx hb dX4_counted_84 rfl (lv_at hl 3 rfl) ?_
          refine x_runv (va_runV (As := [.int (nI j)]) (rest := []) hC (c_X4_reckon hP hD hg (by omega) hmn ho) (cwV 1 hts gX4_counted_X4_reckon rfl rfl rfl qdX4_reckon ⟨Nat.le_of_ble_eq_true rfl, Nat.le_of_ble_eq_true rfl⟩) (x_preV hK (x_recv hK (hP 0 _ rfl) rfl)) rfl rfl hl.1 rfl (lv_room (Nat.le_of_ble_eq_true rfl)) dX4_counted_85 ⟨Nat.le_of_ble_eq_true rfl, Nat.le_of_ble_eq_true rfl⟩) hS (fun _ h => h) (fun H locs hfr hΦ hS => ?_)
          obtain ⟨sA3, rA3, vA3, hsA3, hrA3, hP⟩ := hΦ
          have hP : mP G b (va_up (va_up (va_up mi 3 (nI (sqL (ma 0) (ma 1) o j).length)) 4 (slp (ma 0) (ma 1) o j)) 5 (bas (ma 0) (ma 1) o j)) (va_up (va_up (va_up ma 2 sA3) 3 rA3) 4 vA3) H := hP
          have hD : va_D A (mW G b (va_up (va_up (va_up mi 3 (nI (sqL (ma 0) (ma 1) o j).length)) 4 (slp (ma 0) (ma 1) o j)) 5 (bas (ma 0) (ma 1) o j)) (va_up (va_up (va_up ma 2 sA3) 3 rA3) 4 vA3)) := hD.same rfl
          have hM3 : (sqL (ma 0) (ma 1) o j).length ≤ n := sqM_le ho
          refine lv_iload_n hx hb dX4_counted_88 rfl (lv_at hl 2 rfl) ?_
          refine lv_iload_n hx hb dX4_counted_89 rfl (lv_at hl 1 rfl) ?_
          refine lv_iconst (v := nI 2) hx hb dX4_counted_90 (by decide +kernel) ?_
          refine x_icmp_ne (tgt := 101) hx hb (by omega) (by omega) dX4_counted_91 (by decide) (fun c_4 => ?_) (fun c_4 => ?_)
          · exact absurd rfl c_4
          · refine lv_aload_n hx hb dX4_counted_94 rfl (lv_at hl 0 rfl) ?_
            refine x_get (T := TX4) (N := 11) (v := .int (nI ((sqL (ma 0) (ma 1) o j).length))) hx hb hts in_X4 hown hK (hP 0 _ rfl) rfl 7 (by decide) k_f103 (fun _ h9 => h9) (rfl) dX4_counted_95 ?_
            refine lv_goto (tgt := 113) hx hb dX4_counted_98 (by decide) ?_
            refine x_iaddN hx hb dX4_counted_113 ?_
            refine lv_istore_n (lv' := [(2, .int (nI ((sumN (fun h => sqM (ma 0) (ma 1) o h) j) + ((sqL (ma 0) (ma 1) o j).length)))), (0, .ref (b 0)), (1, .int (nI 2)), (3, .int (nI j))]) hx hb dX4_counted_114 rfl hl (by decide) rfl (fun ls hl => ?_)
            refine lv_iinc (v := nI (j + 1)) (lv' := [(3, .int (nI (j + 1))), (2, .int (nI ((sumN (fun h => sqM (ma 0) (ma 1) o h) j) + ((sqL (ma 0) (ma 1) o j).length)))), (0, .ref (b 0)), (1, .int (nI 2))]) hx hb dX4_counted_115 hl (k := 3) rfl (nI_incn _) (by decide) rfl (fun ls hl => ?_)
            refine lv_goto (tgt := 75) hx hb dX4_counted_118 (by decide) ?_
            exact ih_1 (j + 1) (nI (sqL (ma 0) (ma 1) o j).length) (slp (ma 0) (ma 1) o j) (bas (ma 0) (ma 1) o j) sA3 rA3 vA3 _ _ ls (by omega) (by omega) (hP) (hS) (lv_sub hl [2, 3, 1, 0] rfl)
    exact loop_1 _ 0 (mi 3) (mi 4) (mi 5) (ma 2) (ma 3) (ma 4) _ _ ls (Nat.lt_succ_self _) (Nat.zero_le _) (hP) (hS) (lv_sub hl [2, 3, 1, 0] rfl)
  · refine lv_tableIn (off := 70) (tgt := 73) hx hb dX4_counted_3 (by decide) (by decide) (by decide) (by decide) ?_
    refine lv_iconst (v := nI 0) hx hb dX4_counted_73 (by decide +kernel) ?_
    refine lv_istore_n (lv' := [(3, .int (nI 0)), (2, .int (nI 0)), (0, .ref (b 0)), (1, .int (nI 3))]) hx hb dX4_counted_74 rfl hl (by decide) rfl (fun ls hl => ?_)
    have hP : mP G b (va_up (va_up (va_up mi 3 (mi 3)) 4 (mi 4)) 5 (mi 5)) (va_up (va_up (va_up ma 2 (ma 2)) 3 (ma 3)) 4 (ma 4)) H0 := hP
    have hD : va_D A (mW G b (va_up (va_up (va_up mi 3 (mi 3)) 4 (mi 4)) 5 (mi 5)) (va_up (va_up (va_up ma 2 (ma 2)) 3 (ma 3)) 4 (ma 4))) := hD.same rfl
    have loop_5 : ∀ (fu : Nat) (j : Nat) (x9 : Int32) (y9 : Int32) (z9 : Int32) (s9 : Nat → Int32) (r9 : Nat → Int32) (v9 : Nat → Int32) (H : Heap) (locs : List Loc) (ls : Array Slot), hn - j < fu → (j ≤ hn) → (va_P (gD G) vC (mW G b (va_up (va_up (va_up mi 3 x9) 4 y9) 5 z9) (va_up (va_up (va_up ma 2 s9) 3 r9) 4 v9)) H) → (va_S A H0 H locs) → lv_has ls 4 [(0, .ref (b 0)), (1, .int (nI 3)), (2, .int (nI (cnt (fun h => decide (sqM (ma 0) (ma 1) o h = 0)) j))), (3, .int (nI j))] → W p l e rmX4_counted s m [.ref (b 0), .int (nI 3)].toArray below meth c H locs 0 0 Q (F0 m 75 ls []) := by
      intro fu
      induction fu with
      | zero => intro j x9 y9 z9 s9 r9 v9 H locs ls hms hjn hP hS hl; exact absurd hms (Nat.not_lt_zero _)
      | succ fu ih_5 =>
        intro j x9 y9 z9 s9 r9 v9 H locs ls hms hjn hP hS hl
        have hD : va_D A (mW G b (va_up (va_up (va_up mi 3 x9) 4 y9) 5 z9) (va_up (va_up (va_up ma 2 s9) 3 r9) 4 v9)) := hD.same rfl
        refine lv_iload_n hx hb dX4_counted_75 rfl (lv_at hl 3 rfl) ?_
        refine lv_aload_n hx hb dX4_counted_76 rfl (lv_at hl 0 rfl) ?_
        refine x_get (T := TX4) (N := 11) (v := .int (nI hn)) hx hb hts in_X4 hown hK (hP 0 _ rfl) rfl 3 (by decide) k_f37 (fun _ h9 => h9) (congrArg (fun z => some (Value.int z)) hmh) dX4_counted_77 ?_
        refine x_icmp_ge (tgt := 121) hx hb (by omega) (by omega) dX4_counted_80 (by decide) (fun c_6 => ?_) (fun c_6 => ?_)
        · refine lv_iload_n hx hb dX4_counted_121 rfl (lv_at hl 2 rfl) ?_
          exact x_iret hQ hx hb hr rfl hlk hS.2.2 dX4_counted_122 (⟨hS.fr, by show _ = nI (cnt (fun h => decide (sqM (ma 0) (ma 1) o h = 0)) hn); rw [show j = hn by omega], x9, y9, z9, s9, r9, v9, hP⟩)
        · refine lv_aload_n hx hb dX4_counted_83 rfl (lv_at hl 0 rfl) ?_
          refine lv_iload_n hx hb dX4_counted_84 rfl (lv_at hl 3 rfl) ?_
          refine x_runv (va_runV (As := [.int (nI j)]) (rest := []) hC (c_X4_reckon hP hD hg (by omega) hmn ho) (cwV 1 hts gX4_counted_X4_reckon rfl rfl rfl qdX4_reckon ⟨Nat.le_of_ble_eq_true rfl, Nat.le_of_ble_eq_true rfl⟩) (x_preV hK (x_recv hK (hP 0 _ rfl) rfl)) rfl rfl hl.1 rfl (lv_room (Nat.le_of_ble_eq_true rfl)) dX4_counted_85 ⟨Nat.le_of_ble_eq_true rfl, Nat.le_of_ble_eq_true rfl⟩) hS (fun _ h => h) (fun H locs hfr hΦ hS => ?_)
          obtain ⟨sA7, rA7, vA7, hsA7, hrA7, hP⟩ := hΦ
          have hP : mP G b (va_up (va_up (va_up mi 3 (nI (sqL (ma 0) (ma 1) o j).length)) 4 (slp (ma 0) (ma 1) o j)) 5 (bas (ma 0) (ma 1) o j)) (va_up (va_up (va_up ma 2 sA7) 3 rA7) 4 vA7) H := hP
          have hD : va_D A (mW G b (va_up (va_up (va_up mi 3 (nI (sqL (ma 0) (ma 1) o j).length)) 4 (slp (ma 0) (ma 1) o j)) 5 (bas (ma 0) (ma 1) o j)) (va_up (va_up (va_up ma 2 sA7) 3 rA7) 4 vA7)) := hD.same rfl
          have hM7 : (sqL (ma 0) (ma 1) o j).length ≤ n := sqM_le ho
          refine lv_iload_n hx hb dX4_counted_88 rfl (lv_at hl 2 rfl) ?_
          refine lv_iload_n hx hb dX4_counted_89 rfl (lv_at hl 1 rfl) ?_
          refine lv_iconst (v := nI 2) hx hb dX4_counted_90 (by decide +kernel) ?_
          refine x_icmp_ne (tgt := 101) hx hb (by omega) (by omega) dX4_counted_91 (by decide) (fun c_8 => ?_) (fun c_8 => ?_)
          · have j_9 : W p l e rmX4_counted s m [.ref (b 0), .int (nI 3)].toArray below meth c H locs 0 0 Q (F0 m 113 ls [.int (nI ((decide ((sqL (ma 0) (ma 1) o j).length = 0)).toNat)), .int (nI (cnt (fun h => decide (sqM (ma 0) (ma 1) o h = 0)) j))]) := by
              refine x_iaddN hx hb dX4_counted_113 ?_
              refine lv_istore_n (lv' := [(2, .int (nI ((cnt (fun h => decide (sqM (ma 0) (ma 1) o h = 0)) j) + ((decide ((sqL (ma 0) (ma 1) o j).length = 0)).toNat)))), (0, .ref (b 0)), (1, .int (nI 3)), (3, .int (nI j))]) hx hb dX4_counted_114 rfl hl (by decide) rfl (fun ls hl => ?_)
              refine lv_iinc (v := nI (j + 1)) (lv' := [(3, .int (nI (j + 1))), (2, .int (nI ((cnt (fun h => decide (sqM (ma 0) (ma 1) o h = 0)) j) + ((decide ((sqL (ma 0) (ma 1) o j).length = 0)).toNat)))), (0, .ref (b 0)), (1, .int (nI 3))]) hx hb dX4_counted_115 hl (k := 3) rfl (nI_incn _) (by decide) rfl (fun ls hl => ?_)
              refine lv_goto (tgt := 75) hx hb dX4_counted_118 (by decide) ?_
              exact ih_5 (j + 1) (nI (sqL (ma 0) (ma 1) o j).length) (slp (ma 0) (ma 1) o j) (bas (ma 0) (ma 1) o j) sA7 rA7 vA7 _ _ ls (by omega) (by omega) (hP) (hS) (lv_sub hl [2, 3, 1, 0] rfl)
            refine lv_aload_n hx hb dX4_counted_101 rfl (lv_at hl 0 rfl) ?_
            refine x_get (T := TX4) (N := 11) (v := .int (nI ((sqL (ma 0) (ma 1) o j).length))) hx hb hts in_X4 hown hK (hP 0 _ rfl) rfl 7 (by decide) k_f103 (fun _ h9 => h9) (rfl) dX4_counted_102 ?_
            refine x_if_neN (tgt := 112) hx hb (by omega) dX4_counted_105 (by decide) (fun c_10 => ?_) (fun c_10 => ?_)
            · refine lv_iconst (v := nI 0) hx hb dX4_counted_112 (by decide +kernel) ?_
              exact W.eq (g2 := F0 m 113 ls [.int (nI ((decide ((sqL (ma 0) (ma 1) o j).length = 0)).toNat)), .int (nI (cnt (fun h => decide (sqM (ma 0) (ma 1) o h = 0)) j))]) (congrArg (fun z => F0 m 113 ls (.int z :: [.int (nI (cnt (fun h => decide (sqM (ma 0) (ma 1) o h = 0)) j))])) (congrArg nI (by rw [decide_eq_false (by omega)]; rfl))) j_9
            · refine lv_iconst (v := nI 1) hx hb dX4_counted_108 (by decide +kernel) ?_
              refine lv_goto (tgt := 113) hx hb dX4_counted_109 (by decide) ?_
              exact W.eq (g2 := F0 m 113 ls [.int (nI ((decide ((sqL (ma 0) (ma 1) o j).length = 0)).toNat)), .int (nI (cnt (fun h => decide (sqM (ma 0) (ma 1) o h = 0)) j))]) (congrArg (fun z => F0 m 113 ls (.int z :: [.int (nI (cnt (fun h => decide (sqM (ma 0) (ma 1) o h = 0)) j))])) (congrArg nI (by rw [decide_eq_true c_10]; rfl))) j_9
          · exact absurd c_8 (by decide)
    exact loop_5 _ 0 (mi 3) (mi 4) (mi 5) (ma 2) (ma 3) (ma 4) _ _ ls (Nat.lt_succ_self _) (Nat.zero_le _) (hP) (hS) (lv_sub hl [2, 3, 1, 0] rfl)
  · refine lv_tableIn (off := 43) (tgt := 46) hx hb dX4_counted_3 (by decide) (by decide) (by decide) (by decide) ?_
    refine lv_iconst (v := nI 0) hx hb dX4_counted_46 (by decide +kernel) ?_
    refine lv_istore_n (lv' := [(3, .int (nI 0)), (2, .int (nI 0)), (0, .ref (b 0)), (1, .int (nI 4))]) hx hb dX4_counted_47 rfl hl (by decide) rfl (fun ls hl => ?_)
    have loop_11 : ∀ (fu : Nat) (aa : Nat)  (ls : Array Slot), n - aa < fu → (aa ≤ n) → lv_has ls 4 [(0, .ref (b 0)), (2, .int (nI (sumN (fun s => nc (ma 0) s) aa))), (3, .int (nI aa))] → W p l e rmX4_counted s m [.ref (b 0), .int (nI 4)].toArray below meth c H0 [] 0 0 Q (F0 m 48 ls []) := by
      intro fu
      induction fu with
      | zero => intro aa ls hms haa hl; exact absurd hms (Nat.not_lt_zero _)
      | succ fu ih_11 =>
        intro aa ls hms haa hl
        refine lv_iload_n hx hb dX4_counted_48 rfl (lv_at hl 2 rfl) ?_
        refine lv_aload_n hx hb dX4_counted_49 rfl (lv_at hl 0 rfl) ?_
        refine x_get (T := TX4) (N := 11) (v := .int (nI n)) hx hb hts in_X4 hown hK (hP 0 _ rfl) rfl 1 (by decide) k_f34 (fun _ h9 => h9) (congrArg (fun z => some (Value.int z)) hmn) dX4_counted_50 ?_
        refine x_icmp_ge (tgt := 71) hx hb (by omega) (by omega) dX4_counted_53 (by decide) (fun c_12 => ?_) (fun c_12 => ?_)
        · refine lv_iload_n hx hb dX4_counted_71 rfl (lv_at hl 1 rfl) ?_
          exact x_iret hQ hx hb hr rfl hlk hS.2.2 dX4_counted_72 (⟨hS.fr, by show _ = nI (sumN (fun s => nc (ma 0) s) n); rw [show aa = n by omega], mi 3, mi 4, mi 5, ma 2, ma 3, ma 4, hP⟩)
        · refine lv_iload_n hx hb dX4_counted_56 rfl (lv_at hl 1 rfl) ?_
          refine lv_aload_n hx hb dX4_counted_57 rfl (lv_at hl 0 rfl) ?_
          refine lv_iload_n hx hb dX4_counted_58 rfl (lv_at hl 2 rfl) ?_
          refine lv_iconst (v := nI 4) hx hb dX4_counted_59 (by decide +kernel) ?_
          refine x_rd (va_runV (As := [.int (nI aa), .int (nI 4)]) (rest := [.int (nI (sumN (fun s => nc (ma 0) s) aa))]) hC (c_X4_get hP (by omega) (by omega)) (cwV 2 hts gX4_counted_X4_get rfl rfl rfl qdX4_get ⟨Nat.le_of_ble_eq_true rfl, Nat.le_of_ble_eq_true rfl⟩) (x_preV hK (x_recv hK (hP 0 _ rfl) rfl)) rfl rfl hl.1 rfl (lv_room (Nat.le_of_ble_eq_true rfl)) dX4_counted_60 ⟨Nat.le_of_ble_eq_true rfl, Nat.le_of_ble_eq_true rfl⟩) ?_
          refine W.eq (g2 := F0 m 63 ls [.int (nI (nc (ma 0) aa)), .int (nI (sumN (fun s => nc (ma 0) s) aa))]) (congrArg (fun z => F0 m 63 ls (.int z :: [.int (nI (sumN (fun s => nc (ma 0) s) aa))])) (hg.c (by omega))) ?_
          refine x_iaddN hx hb dX4_counted_63 ?_
          refine lv_istore_n (lv' := [(2, .int (nI ((sumN (fun s => nc (ma 0) s) aa) + (nc (ma 0) aa)))), (0, .ref (b 0)), (3, .int (nI aa))]) hx hb dX4_counted_64 rfl hl (by decide) rfl (fun ls hl => ?_)
          refine lv_iinc (v := nI (aa + 1)) (lv' := [(3, .int (nI (aa + 1))), (2, .int (nI ((sumN (fun s => nc (ma 0) s) aa) + (nc (ma 0) aa)))), (0, .ref (b 0))]) hx hb dX4_counted_65 hl (k := 2) rfl (nI_incn _) (by decide) rfl (fun ls hl => ?_)
          refine lv_goto (tgt := 48) hx hb dX4_counted_68 (by decide) ?_
          exact ih_11 (aa + 1) ls (by omega) (by omega) (lv_sub hl [2, 1, 0] rfl)
    exact loop_11 _ 0 ls (Nat.lt_succ_self _) (Nat.zero_le _) (lv_sub hl [2, 1, 0] rfl)
abbrev rmX4_count : Room := { frames := 6, cells := 0, slots := 0, locals := 139 }
theorem qdX4_count : yX4_count.cls = RX4 ∧ yX4_count.cls ≠ "java/lang/invoke/MethodHandle" ∧ yX4_count.cls ≠ "java/lang/invoke/VarHandle" ∧ (parseMethodDescriptor yX4_count.desc).map (fun d => d.parameters.length) = some 1 := by decide +kernel
set_option maxHeartbeats 4000000 in
set_option maxRecDepth 100000 in
theorem c_X4_count {l : Launch} {G : gT} {A : Nat → Prop} {b : Nat → Nat} {mi : Nat → Int32} {ma : Nat → Nat → Int32} {H0 : Heap} {n hn : Nat} {o : List Nat} {x1 : Int32} (hP : mP G b mi ma H0) (hD : va_D A (mW G b mi ma)) (hmn : mi 1 = nI n) (hmh : mi 2 = nI hn) (hg : OK n hn (ma 0) (ma 1)) (ho : IsOrd (fun s => gL (ma 0) s 0) n o) : WrI G l yX4_count wsX4_count rmX4_count [.ref (b 0), .int x1] H0 A (fun r H1 => mQ G b n hn (ma 0) (ma 1) (k1 (inR (nI 0) (nI 4) x1)) (cv n hn (ma 0) (ma 1) o x1.toNatClampNeg) r H1) := by
  refine x_head (bytes := cX4_count) (maxL := 2) (ret := (some .int)) (by decide) rfl (Nat.le_of_ble_eq_true rfl) ?_
  intro p e s m below meth c ls hx hb hml hown hts hr hlk hnm hK hs0 hl Q hQ
  have hl : lv_has ls 2 [(0, .ref (b 0)), (1, .int x1)] := hl
  have hC : CallFix p m c cX4_count 2 s [.ref (b 0), .int x1].toArray wsX4_count RX4 := ⟨hx, hb, hml, hown, hts⟩
  have k_f25 := hts (.fieldLink RX4 25 "SundogLineModel" "thrown" "I") (by decide +kernel)
  have in_X4 : ∀ w ∈ u_ws RX4 TX4 11, w ∈ wsX4_count := by decide +kernel
  have hS : va_S A H0 H0 [] := va_S.rf
  have hn12 := hg.n
  have hh16 := hg.hn
  refine lv_aload_n hx hb dX4_count_0 rfl (lv_at hl 0 rfl) ?_
  refine lv_iconst (v := nI 0) hx hb dX4_count_1 (by decide +kernel) ?_
  refine va_put (D := gD G) (ci := 4) (v := .int (nI 0)) (ty := .int) (C := RX4) (T := TX4) (N := 11) hx hb hts in_X4 tyX4 tyX4_ok nmX4 hown hK hP hD hS 0 rfl rfl 0 (by decide) k_f25 (fun _ h9 => h9) rfl (by decide +kernel) rfl rfl (Nat.le_of_ble_eq_true rfl) dX4_count_2 (fun H locs hP hD hS => ?_)
  have hP : mP G b (va_up mi 0 (nI 0)) ma H := hP
  have hD : va_D A (mW G b (va_up mi 0 (nI 0)) ma) := hD
  refine lv_iload_n hx hb dX4_count_5 rfl (lv_at hl 1 rfl) ?_
  refine lv_iconst (v := nI 0) hx hb dX4_count_6 (by decide +kernel) ?_
  refine lv_iconst (v := nI 4) hx hb dX4_count_7 (by decide +kernel) ?_
  refine x_rd (va_runS (As := [.int x1, .int (nI 0), .int (nI 4)]) (rest := []) hC (c_X4_isIn) (cwS 3 hts gX4_count_X4_isIn rfl rfl rfl qdX4_isIn ⟨Nat.le_of_ble_eq_true rfl, Nat.le_of_ble_eq_true rfl⟩) (x_preS hK) rfl rfl hl.1 rfl (lv_room (Nat.le_of_ble_eq_true rfl)) dX4_count_8 ⟨Nat.le_of_ble_eq_true rfl, Nat.le_of_ble_eq_true rfl⟩) ?_
  refine W.eq (g2 := F0 m 11 ls [.int (bI (inR (nI 0) (nI 4) x1))]) rfl ?_
  refine x_if_eqB (tgt := 22) hx hb dX4_count_11 (by decide) (fun c_1 => ?_) (fun c_1 => ?_)
  · refine lv_aload_n hx hb dX4_count_22 rfl (lv_at hl 0 rfl) ?_
    refine lv_iconst (v := nI 1) hx hb dX4_count_23 (by decide +kernel) ?_
    refine x_runi (va_runV (As := [.int (nI 1)]) (rest := []) hC (c_X4_fail hP hD) (cwV 1 hts gX4_count_X4_fail rfl rfl rfl qdX4_fail ⟨Nat.le_of_ble_eq_true rfl, Nat.le_of_ble_eq_true rfl⟩) (x_preV hK (x_recv hK (hP 0 _ rfl) rfl)) rfl rfl hl.1 rfl (lv_room (Nat.le_of_ble_eq_true rfl)) dX4_count_24 ⟨Nat.le_of_ble_eq_true rfl, Nat.le_of_ble_eq_true rfl⟩) hS (fun _ h => h) (fun r_2 H locs hfr hΦ hS => ?_)
    obtain ⟨er_2, hP⟩ := hΦ
    rw [er_2]
    have hP : mP G b (va_up mi 0 (nI 1)) ma H := hP
    have hD : va_D A (mW G b (va_up mi 0 (nI 1)) ma) := hD.same rfl
    have hkk9 : k1 (inR (nI 0) (nI 4) x1) = 1 := by simp only [k1, k2, k3, Bool.and_true, Bool.true_and, Bool.and_false, Bool.false_and, Bool.not_true, Bool.not_false, c_1] <;> rfl
    have hkn9 : ¬ k1 (inR (nI 0) (nI 4) x1) = 0 := by rw [hkk9]; decide
    exact x_iret hQ hx hb hr rfl hlk hS.2.2 dX4_count_27 ⟨hS.fr, mQ_mk (k0 := 1) hkk9 hP rfl (hmn) (hmh) (rfl) (rfl) (fun z => absurd z (by decide))⟩
  · obtain ⟨kk, hkk, rfl⟩ := inR_natL (n := 4) (by decide) c_1
    refine lv_aload_n hx hb dX4_count_14 rfl (lv_at hl 0 rfl) ?_
    refine lv_iload_n hx hb dX4_count_15 rfl (lv_at hl 1 rfl) ?_
    refine x_runi (va_runV (As := [.int (nI kk)]) (rest := []) hC (c_X4_counted hP hD hmn hmh hg ho (by omega)) (cwV 1 hts gX4_count_X4_counted rfl rfl rfl qdX4_counted ⟨Nat.le_of_ble_eq_true rfl, Nat.le_of_ble_eq_true rfl⟩) (x_preV hK (x_recv hK (hP 0 _ rfl) rfl)) rfl rfl hl.1 rfl (lv_room (Nat.le_of_ble_eq_true rfl)) dX4_count_16 ⟨Nat.le_of_ble_eq_true rfl, Nat.le_of_ble_eq_true rfl⟩) hS (fun _ h => h) (fun r3 H locs hfr hΦ hS => ?_)
    obtain ⟨er3, x3, y3, z3, s3, rr3, v3, hP⟩ := hΦ
    have hP : mP G b (va_up (va_up (va_up (va_up mi 0 (nI 0)) 3 x3) 4 y3) 5 z3) (va_up (va_up (va_up ma 2 s3) 3 rr3) 4 v3) H := hP
    have hD : va_D A (mW G b (va_up (va_up (va_up (va_up mi 0 (nI 0)) 3 x3) 4 y3) 5 z3) (va_up (va_up (va_up ma 2 s3) 3 rr3) 4 v3)) := hD.same rfl
    rw [er3]
    refine lv_goto (tgt := 27) hx hb dX4_count_19 (by decide) ?_
    have hkk9 : k1 (inR (nI 0) (nI 4) (nI kk)) = 0 := by simp only [k1, k2, k3, Bool.and_true, Bool.true_and, Bool.and_false, Bool.false_and, Bool.not_true, Bool.not_false, c_1] <;> rfl
    exact x_iret hQ hx hb hr rfl hlk hS.2.2 dX4_count_27 ⟨hS.fr, mQ_mk (k0 := 0) hkk9 hP rfl (hmn) (hmh) (rfl) (rfl) (fun _ => by rw [nI_clamp (show kk < 2 ^ 31 by omega)])⟩
