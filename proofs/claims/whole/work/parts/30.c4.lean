/-- what a reckoning of halo j leaves -/
def RK (L T : Nat → Int32) (o : List Nat) (j : Nat) (ri : Nat → Int32) (ra : Nat → Nat → Int32) : Prop := (ri 0 = nI (sqL L T o j).length ∧ (∀ k, k < (sqL L T o j).length → ra 0 k = nI (sq L T o j k)) ∧ (∀ k, k < (sqL L T o j).length → ra 1 k = gL L (sq L T o j k) 0) ∧ ∀ k, k < (sqL L T o j).length → ra 2 k = rr L T o j k) ∧ (ri 2 = slp L T o j ∧ ri 3 = bas L T o j ∧ ri 1 = hv L T o j 3 ∧ ri 4 = hv L T o j 4) ∧ (2 ≤ (sqL L T o j).length → ∀ k, k < (sqL L T o j).length → ra 3 k = lf L T o j k)
theorem colC_congr {c c' : Nat → Nat → Bool} : ∀ M, (∀ i k, i < k → k < M → c i k = c' i k) → colC c M = colC c' M := by
  intro M
  induction M with
  | zero => intro _; rfl
  | succ M ih =>
    intro h
    show colC c M + cnt (fun a => c a M) M = colC c' M + cnt (fun a => c' a M) M
    rw [ih (fun i k h1 h2 => h i k h1 (by omega)), cnt_congr M (fun i hi => h i M hi (by omega))]
theorem gc_congr {sg : Int32} {r r' : Nat → Int32} {M : Nat} (h : ∀ k, k < M → r k = r' k) : lrun (gc sg r) M = lrun (gc sg r') M := lrun_congr _ (fun i k h1 h2 => by
  unfold gc
  rw [h i (by omega), h k h2])
theorem fall_congr {r r' : Nat → Int32} {M : Nat} (h : ∀ k, k < M → r k = r' k) : colC (fallB r) M = colC (fallB r') M := colC_congr _ (fun i k h1 h2 => by
  show decide (r k < r i) = decide (r' k < r' i)
  rw [h i (by omega), h k h2])
abbrev rmX1_tell : Room := { frames := 2, cells := 0, slots := 0, locals := 41 }
theorem qdX1_tell : yX1_tell.cls = RX1 ∧ yX1_tell.cls ≠ "java/lang/invoke/MethodHandle" ∧ yX1_tell.cls ≠ "java/lang/invoke/VarHandle" ∧ (parseMethodDescriptor yX1_tell.desc).map (fun d => d.parameters.length) = some 1 := by decide +kernel
set_option maxHeartbeats 4000000 in
set_option maxRecDepth 100000 in
theorem c_X1_tell {l : Launch} {G : gT} {A : Nat → Prop} {rb : Nat → Nat} {ri : Nat → Int32} {ra : Nat → Nat → Int32} {H0 : Heap} {j kk : Nat} {L T : Nat → Int32} {o : List Nat} (hP : rP G rb ri ra H0) (hD : va_D A (rW G rb ri ra)) (hk9 : RK L T o j ri ra) (hM12 : (sqL L T o j).length ≤ 12) (hkk : kk < 7) : WrI G l yX1_tell wsX1_tell rmX1_tell [.ref (rb 0), .int (nI kk)] H0 A (fun r H1 => r = hv L T o j kk ∧ ∃ v, rP G rb ri (va_up ra 4 v) H1) := by
  refine x_head (bytes := cX1_tell) (maxL := 2) (ret := (some .int)) (by decide) rfl (Nat.le_of_ble_eq_true rfl) ?_
  intro p e s m below meth c ls hx hb hml hown hts hr hlk hnm hK hs0 hl Q hQ
  have hl : lv_has ls 2 [(0, .ref (rb 0)), (1, .int (nI kk))] := hl
  have hC : CallFix p m c cX1_tell 2 s [.ref (rb 0), .int (nI kk)].toArray wsX1_tell RX1 := ⟨hx, hb, hml, hown, hts⟩
  have k_f48 := hts (.fieldLink RX1 48 "SundogLine$Reckoning" "seen" "I") (by decide +kernel)
  have in_X1 : ∀ w ∈ u_ws RX1 TX1 11, w ∈ wsX1_tell := by decide +kernel
  have k_f35 := hts (.fieldLink RX1 35 "SundogLine$Reckoning" "slope" "I") (by decide +kernel)
  have k_f39 := hts (.fieldLink RX1 39 "SundogLine$Reckoning" "base" "I") (by decide +kernel)
  have k_f42 := hts (.fieldLink RX1 42 "SundogLine$Reckoning" "odd" "I") (by decide +kernel)
  have k_f45 := hts (.fieldLink RX1 45 "SundogLine$Reckoning" "leftOfOdd" "I") (by decide +kernel)
  have k_m104 := hts (.methodLink RX1 104 Lib.Math.max.name) (by decide +kernel)
  have k_msmax := hts (.static Lib.Math.max.name) (by decide +kernel)
  have k_mi := hts (.initialized "java/lang/Math") (by decide +kernel)
  have k_mcmax := hts (.code Lib.Math.max.name Lib.Math.max.code 2 (some .int)) (by decide +kernel)
  have hS : va_S A H0 H0 [] := va_S.rf
  obtain ⟨⟨hM, hsA, hpA, hrA⟩, ⟨hsl, hba, hod, hlo⟩, hlf⟩ := hk9
  refine lv_iload_n hx hb dX1_tell_0 rfl (lv_at hl 1 rfl) ?_
  rcases (show kk = 0 ∨ kk = 1 ∨ kk = 2 ∨ kk = 3 ∨ kk = 4 ∨ kk = 5 ∨ kk = 6 by omega) with rfl | rfl | rfl | rfl | rfl | rfl | rfl
  · refine lv_tableIn (off := 39) (tgt := 40) hx hb dX1_tell_1 (by decide) (by decide) (by decide) (by decide) ?_
    refine lv_aload_n hx hb dX1_tell_40 rfl (lv_at hl 0 rfl) ?_
    refine x_get (T := TX1) (N := 11) (v := .int (nI ((sqL L T o j).length))) hx hb hts in_X1 hown hK (hP 0 _ rfl) rfl 0 (by decide) k_f48 (fun _ h9 => h9) (congrArg (fun z => some (Value.int z)) hM) dX1_tell_41 ?_
    exact x_iret hQ hx hb hr rfl hlk hS.2.2 dX1_tell_44 (⟨hS.fr, rfl, ra 4, hP⟩)
  · refine lv_tableIn (off := 44) (tgt := 45) hx hb dX1_tell_1 (by decide) (by decide) (by decide) (by decide) ?_
    refine lv_aload_n hx hb dX1_tell_45 rfl (lv_at hl 0 rfl) ?_
    refine x_get (T := TX1) (N := 11) (v := .int (ri 2)) hx hb hts in_X1 hown hK (hP 0 _ rfl) rfl 2 (by decide) k_f35 (fun _ h9 => h9) (rfl) dX1_tell_46 ?_
    exact x_iret hQ hx hb hr rfl hlk hS.2.2 dX1_tell_49 (⟨hS.fr, hsl, ra 4, hP⟩)
  · refine lv_tableIn (off := 49) (tgt := 50) hx hb dX1_tell_1 (by decide) (by decide) (by decide) (by decide) ?_
    refine lv_aload_n hx hb dX1_tell_50 rfl (lv_at hl 0 rfl) ?_
    refine x_get (T := TX1) (N := 11) (v := .int (ri 3)) hx hb hts in_X1 hown hK (hP 0 _ rfl) rfl 3 (by decide) k_f39 (fun _ h9 => h9) (rfl) dX1_tell_51 ?_
    exact x_iret hQ hx hb hr rfl hlk hS.2.2 dX1_tell_54 (⟨hS.fr, hba, ra 4, hP⟩)
  · refine lv_tableIn (off := 54) (tgt := 55) hx hb dX1_tell_1 (by decide) (by decide) (by decide) (by decide) ?_
    refine lv_aload_n hx hb dX1_tell_55 rfl (lv_at hl 0 rfl) ?_
    refine x_get (T := TX1) (N := 11) (v := .int (ri 1)) hx hb hts in_X1 hown hK (hP 0 _ rfl) rfl 1 (by decide) k_f42 (fun _ h9 => h9) (rfl) dX1_tell_56 ?_
    exact x_iret hQ hx hb hr rfl hlk hS.2.2 dX1_tell_59 (⟨hS.fr, hod, ra 4, hP⟩)
  · refine lv_tableIn (off := 59) (tgt := 60) hx hb dX1_tell_1 (by decide) (by decide) (by decide) (by decide) ?_
    refine lv_aload_n hx hb dX1_tell_60 rfl (lv_at hl 0 rfl) ?_
    refine x_get (T := TX1) (N := 11) (v := .int (ri 4)) hx hb hts in_X1 hown hK (hP 0 _ rfl) rfl 4 (by decide) k_f45 (fun _ h9 => h9) (rfl) dX1_tell_61 ?_
    exact x_iret hQ hx hb hr rfl hlk hS.2.2 dX1_tell_64 (⟨hS.fr, hlo, ra 4, hP⟩)
  · refine lv_tableIn (off := 64) (tgt := 65) hx hb dX1_tell_1 (by decide) (by decide) (by decide) (by decide) ?_
    refine lv_aload_n hx hb dX1_tell_65 rfl (lv_at hl 0 rfl) ?_
    refine lv_iconst (v := nI 1) hx hb dX1_tell_66 (by decide +kernel) ?_
    refine x_runi (va_runV (As := [.int (nI 1)]) (rest := []) hC (c_X1_longestRun (M := (sqL L T o j).length) hP hD hM (by omega)) (cwV 1 hts gX1_tell_X1_longestRun rfl rfl rfl qdX1_longestRun ⟨Nat.le_of_ble_eq_true rfl, Nat.le_of_ble_eq_true rfl⟩) (x_preV hK (x_recv hK (hP 0 _ rfl) rfl)) rfl rfl hl.1 rfl (lv_room (Nat.le_of_ble_eq_true rfl)) dX1_tell_67 ⟨Nat.le_of_ble_eq_true rfl, Nat.le_of_ble_eq_true rfl⟩) hS (fun _ h => h) (fun r_1 H locs hfr hΦ hS => ?_)
    obtain ⟨er_1, v_2, hP⟩ := hΦ
    have hP : rP G rb ri (va_up ra 4 v_2) H := hP
    have hD : va_D A (rW G rb ri (va_up ra 4 v_2)) := hD.same rfl
    have er_1 : r_1 = nI (lrun (gc (nI 1) (rr L T o j)) (sqL L T o j).length) := er_1.trans (congrArg nI (gc_congr hrA))
    rw [er_1]
    refine lv_aload_n hx hb dX1_tell_70 rfl (lv_at hl 0 rfl) ?_
    refine lv_iconst (v := (-1)) hx hb dX1_tell_71 (by decide +kernel) ?_
    refine x_runi (va_runV (As := [.int ((-1))]) (rest := [.int (nI (lrun (gc (nI 1) (rr L T o j)) (sqL L T o j).length))]) hC (c_X1_longestRun (M := (sqL L T o j).length) hP hD hM (by omega)) (cwV 1 hts gX1_tell_X1_longestRun rfl rfl rfl qdX1_longestRun ⟨Nat.le_of_ble_eq_true rfl, Nat.le_of_ble_eq_true rfl⟩) (x_preV hK (x_recv hK (hP 0 _ rfl) rfl)) rfl rfl hl.1 rfl (lv_room (Nat.le_of_ble_eq_true rfl)) dX1_tell_72 ⟨Nat.le_of_ble_eq_true rfl, Nat.le_of_ble_eq_true rfl⟩) hS (fun _ h => h) (fun r_3 H locs hfr hΦ hS => ?_)
    obtain ⟨er_3, v_4, hP⟩ := hΦ
    have hP : rP G rb ri (va_up ra 4 v_4) H := hP
    have hD : va_D A (rW G rb ri (va_up ra 4 v_4)) := hD.same rfl
    have er_3 : r_3 = nI (lrun (gc (-1) (rr L T o j)) (sqL L T o j).length) := er_3.trans (congrArg nI (gc_congr hrA))
    rw [er_3]
    refine va_mmax hx hb (hml.trans hl.1.symm) hown k_m104 k_msmax k_mi k_mcmax (by decide) (Nat.le_of_ble_eq_true rfl) (Nat.zero_le _) (Nat.zero_le _) dX1_tell_75 ?_
    refine W.eq (g2 := F0 m 78 ls [.int (mx (nI (lrun (gc (nI 1) (rr L T o j)) (sqL L T o j).length)) (nI (lrun (gc (-1) (rr L T o j)) (sqL L T o j).length)))]) rfl ?_
    refine W.eq (g2 := F0 m 78 ls [.int (nI (max (lrun (gc (nI 1) (rr L T o j)) (sqL L T o j).length) (lrun (gc (-1) (rr L T o j)) (sqL L T o j).length)))]) (congrArg (fun z => F0 m 78 ls (.int z :: [])) (mx_nat (by have := lrun_le (gc (nI 1) (rr L T o j)) (sqL L T o j).length; omega) (by have := lrun_le (gc (-1) (rr L T o j)) (sqL L T o j).length; omega))) ?_
    exact x_iret hQ hx hb hr rfl hlk hS.2.2 dX1_tell_78 (⟨hS.fr, rfl, v_4, hP⟩)
  · refine lv_tableOut (tgt := 79) hx hb dX1_tell_1 (by decide) (by decide) ?_
    refine lv_aload_n hx hb dX1_tell_79 rfl (lv_at hl 0 rfl) ?_
    refine x_rd (va_runV (As := []) (rest := []) hC (c_X1_fallingPairs (M := (sqL L T o j).length) hP hM (by omega)) (cwV 0 hts gX1_tell_X1_fallingPairs rfl rfl rfl qdX1_fallingPairs ⟨Nat.le_of_ble_eq_true rfl, Nat.le_of_ble_eq_true rfl⟩) (x_preV hK (x_recv hK (hP 0 _ rfl) rfl)) rfl rfl hl.1 rfl (lv_room (Nat.le_of_ble_eq_true rfl)) dX1_tell_80 ⟨Nat.le_of_ble_eq_true rfl, Nat.le_of_ble_eq_true rfl⟩) ?_
    exact x_iret hQ hx hb hr rfl hlk hS.2.2 dX1_tell_83 (⟨hS.fr, by show _ = nI (allC _ (sqL L T o j).length (sqL L T o j).length); rw [allC_col]; exact congrArg nI (fall_congr hrA), ra 4, hP⟩)
abbrev rmX1_reckon : Room := { frames := 4, cells := 0, slots := 0, locals := 89 }
theorem qdX1_reckon : yX1_reckon.cls = RX1 ∧ yX1_reckon.cls ≠ "java/lang/invoke/MethodHandle" ∧ yX1_reckon.cls ≠ "java/lang/invoke/VarHandle" ∧ (parseMethodDescriptor yX1_reckon.desc).map (fun d => d.parameters.length) = some 2 := by decide +kernel
set_option maxHeartbeats 4000000 in
set_option maxRecDepth 100000 in
theorem c_X1_reckon {l : Launch} {G : gT} {A : Nat → Prop} {rb : Nat → Nat} {ri : Nat → Int32} {ra : Nat → Nat → Int32} {H0 : Heap} {ro : Nat → Prop} {n hn : Nat} {L T : Nat → Int32} {o : List Nat} {sa fa ta ha : Nat → Nat} {F U : Nat → Nat → Int32} {aS aB aH j : Nat} (hP : rP G rb ri ra H0) (hD : va_D A (rW G rb ri ra)) (hcr0 : crO G ro n hn L T o sa fa ta ha F U aS aB aH H0) (hro : ∀ q, ro q → ¬ A q) (hg : OK n hn L T) (ho : IsOrd (fun s => gL L s 0) n o) (hj : j < hn) : WnV G l yX1_reckon wsX1_reckon rmX1_reckon [.ref (rb 0), .ref (ha j), .ref aB] H0 A (fun H1 => ∃ ri1 ra1, RK L T o j ri1 ra1 ∧ rP G rb ri1 ra1 H1) := by
  refine x_headn (bytes := cX1_reckon) (maxL := 3) (ret := none) (by decide) rfl (Nat.le_of_ble_eq_true rfl) ?_
  intro p e s m below meth c ls hx hb hml hown hts hr hlk hnm hK hs0 hl Q hQ hN
  have hl : lv_has ls 3 [(0, .ref (rb 0)), (1, .ref (ha j)), (2, .ref aB)] := hl
  have hC : CallFix p m c cX1_reckon 3 s [.ref (rb 0), .ref (ha j), .ref aB].toArray wsX1_reckon RX1 := ⟨hx, hb, hml, hown, hts⟩
  have k_c34 := hts (.constant RX1 34 (-1000000)) (by decide +kernel)
  have k_f35 := hts (.fieldLink RX1 35 "SundogLine$Reckoning" "slope" "I") (by decide +kernel)
  have in_X1 : ∀ w ∈ u_ws RX1 TX1 11, w ∈ wsX1_reckon := by decide +kernel
  have k_f39 := hts (.fieldLink RX1 39 "SundogLine$Reckoning" "base" "I") (by decide +kernel)
  have k_f42 := hts (.fieldLink RX1 42 "SundogLine$Reckoning" "odd" "I") (by decide +kernel)
  have k_f45 := hts (.fieldLink RX1 45 "SundogLine$Reckoning" "leftOfOdd" "I") (by decide +kernel)
  have k_f48 := hts (.fieldLink RX1 48 "SundogLine$Reckoning" "seen" "I") (by decide +kernel)
  have hS : va_S A H0 H0 [] := va_S.rf
  have hn12 := hg.n
  have hh16 := hg.hn
  have hM12 : (sqL L T o j).length ≤ n := sqM_le ho
  refine lv_aload_n hx hb dX1_reckon_0 rfl (lv_at hl 0 rfl) ?_
  refine lv_aload_n hx hb dX1_reckon_1 rfl (lv_at hl 1 rfl) ?_
  refine lv_aload_n hx hb dX1_reckon_2 rfl (lv_at hl 2 rfl) ?_
  refine x_runv (va_runV (As := [.ref (ha j), .ref aB]) (rest := []) hC (c_X1_look hP hD hcr0 hro hg ho hj) (cwV 2 hts gX1_reckon_X1_look rfl rfl rfl qdX1_look ⟨Nat.le_of_ble_eq_true rfl, Nat.le_of_ble_eq_true rfl⟩) (x_preV hK (x_recv hK (hP 0 _ rfl) rfl)) rfl rfl hl.1 rfl (lv_room (Nat.le_of_ble_eq_true rfl)) dX1_reckon_3 ⟨Nat.le_of_ble_eq_true rfl, Nat.le_of_ble_eq_true rfl⟩) hS (fun _ h => h) (fun H locs hfr hΦ hS => ?_)
  obtain ⟨s9, p9, r9, hsA, hpA, hrA, hP⟩ := hΦ
  have hP : rP G rb (va_up ri 0 (nI (sqL L T o j).length)) (va_up (va_up (va_up ra 0 s9) 1 p9) 2 r9) H := hP
  have hD : va_D A (rW G rb (va_up ri 0 (nI (sqL L T o j).length)) (va_up (va_up (va_up ra 0 s9) 1 p9) 2 r9)) := hD.same rfl
  refine lv_aload_n hx hb dX1_reckon_6 rfl (lv_at hl 0 rfl) ?_
  refine lv_ldc (v := (-1000000)) hx hb hown k_c34 dX1_reckon_7 ?_
  refine lv_topi (fun un1 eun1 => ?_)
  refine va_put (D := gD G) (ci := 1) (v := .int un1) (ty := .int) (C := RX1) (T := TX1) (N := 11) hx hb hts in_X1 tyX1 tyX1_ok nmX1 hown hK hP hD hS 0 rfl rfl 2 (by decide) k_f35 (fun _ h9 => h9) rfl (by decide +kernel) rfl rfl (Nat.le_of_ble_eq_true rfl) dX1_reckon_9 (fun H locs hP hD hS => ?_)
  have hP : rP G rb (va_up (va_up ri 0 (nI (sqL L T o j).length)) 2 un1) (va_up (va_up (va_up ra 0 s9) 1 p9) 2 r9) H := hP
  have hD : va_D A (rW G rb (va_up (va_up ri 0 (nI (sqL L T o j).length)) 2 un1) (va_up (va_up (va_up ra 0 s9) 1 p9) 2 r9)) := hD.same rfl
  refine lv_aload_n hx hb dX1_reckon_12 rfl (lv_at hl 0 rfl) ?_
  refine lv_ldc (v := (-1000000)) hx hb hown k_c34 dX1_reckon_13 ?_
  refine lv_topi (fun un2 eun2 => ?_)
  refine va_put (D := gD G) (ci := 1) (v := .int un2) (ty := .int) (C := RX1) (T := TX1) (N := 11) hx hb hts in_X1 tyX1 tyX1_ok nmX1 hown hK hP hD hS 0 rfl rfl 3 (by decide) k_f39 (fun _ h9 => h9) rfl (by decide +kernel) rfl rfl (Nat.le_of_ble_eq_true rfl) dX1_reckon_15 (fun H locs hP hD hS => ?_)
  have hP : rP G rb (va_up (va_up (va_up ri 0 (nI (sqL L T o j).length)) 2 un1) 3 un2) (va_up (va_up (va_up ra 0 s9) 1 p9) 2 r9) H := hP
  have hD : va_D A (rW G rb (va_up (va_up (va_up ri 0 (nI (sqL L T o j).length)) 2 un1) 3 un2) (va_up (va_up (va_up ra 0 s9) 1 p9) 2 r9)) := hD.same rfl
  refine lv_aload_n hx hb dX1_reckon_18 rfl (lv_at hl 0 rfl) ?_
  refine lv_ldc (v := (-1000000)) hx hb hown k_c34 dX1_reckon_19 ?_
  refine lv_topi (fun un3 eun3 => ?_)
  refine va_put (D := gD G) (ci := 1) (v := .int un3) (ty := .int) (C := RX1) (T := TX1) (N := 11) hx hb hts in_X1 tyX1 tyX1_ok nmX1 hown hK hP hD hS 0 rfl rfl 1 (by decide) k_f42 (fun _ h9 => h9) rfl (by decide +kernel) rfl rfl (Nat.le_of_ble_eq_true rfl) dX1_reckon_21 (fun H locs hP hD hS => ?_)
  have hP : rP G rb (va_up (va_up (va_up (va_up ri 0 (nI (sqL L T o j).length)) 1 un3) 2 un1) 3 un2) (va_up (va_up (va_up ra 0 s9) 1 p9) 2 r9) H := hP
  have hD : va_D A (rW G rb (va_up (va_up (va_up (va_up ri 0 (nI (sqL L T o j).length)) 1 un3) 2 un1) 3 un2) (va_up (va_up (va_up ra 0 s9) 1 p9) 2 r9)) := hD.same rfl
  refine lv_aload_n hx hb dX1_reckon_24 rfl (lv_at hl 0 rfl) ?_
  refine lv_ldc (v := (-1000000)) hx hb hown k_c34 dX1_reckon_25 ?_
  refine lv_topi (fun un4 eun4 => ?_)
  refine va_put (D := gD G) (ci := 1) (v := .int un4) (ty := .int) (C := RX1) (T := TX1) (N := 11) hx hb hts in_X1 tyX1 tyX1_ok nmX1 hown hK hP hD hS 0 rfl rfl 4 (by decide) k_f45 (fun _ h9 => h9) rfl (by decide +kernel) rfl rfl (Nat.le_of_ble_eq_true rfl) dX1_reckon_27 (fun H locs hP hD hS => ?_)
  have hP : rP G rb (va_up (va_up (va_up (va_up (va_up ri 0 (nI (sqL L T o j).length)) 1 un3) 2 un1) 3 un2) 4 un4) (va_up (va_up (va_up ra 0 s9) 1 p9) 2 r9) H := hP
  have hD : va_D A (rW G rb (va_up (va_up (va_up (va_up (va_up ri 0 (nI (sqL L T o j).length)) 1 un3) 2 un1) 3 un2) 4 un4) (va_up (va_up (va_up ra 0 s9) 1 p9) 2 r9)) := hD.same rfl
  refine lv_aload_n hx hb dX1_reckon_30 rfl (lv_at hl 0 rfl) ?_
  refine x_get (T := TX1) (N := 11) (v := .int (nI ((sqL L T o j).length))) hx hb hts in_X1 hown hK (hP 0 _ rfl) rfl 0 (by decide) k_f48 (fun _ h9 => h9) (rfl) dX1_reckon_31 ?_
  refine lv_iconst (v := nI 2) hx hb dX1_reckon_34 (by decide +kernel) ?_
  refine x_icmp_lt (tgt := 58) hx hb (by omega) (by omega) dX1_reckon_35 (by decide) (fun c_1 => ?_) (fun c_1 => ?_)
  · exact x_vret hQ hx hb hr hlk hS.2.2 dX1_reckon_58 (⟨hS.fr, _, _, ⟨⟨rfl, hsA, hpA, hrA⟩, ⟨eun1.trans (if_pos (show (sqL L T o j).length < 2 by omega)).symm, eun2.trans (if_pos (show (sqL L T o j).length < 2 by omega)).symm, eun3.trans (show _ = (if (sqL L T o j).length < 2 then _ else _) from (if_pos (show (sqL L T o j).length < 2 by omega)).symm), eun4.trans (show _ = (if (sqL L T o j).length < 2 then _ else _) from (if_pos (show (sqL L T o j).length < 2 by omega)).symm)⟩, fun z => by omega⟩, hP⟩)
  · refine lv_aload_n hx hb dX1_reckon_38 rfl (lv_at hl 0 rfl) ?_
    refine lv_aload_n hx hb dX1_reckon_39 rfl (lv_at hl 0 rfl) ?_
    refine x_runi (va_runV (As := []) (rest := [.ref (rb 0)]) hC (c_X1_middleSlope hP hD hg ho rfl hsA hpA hrA (by omega)) (cwV 0 hts gX1_reckon_X1_middleSlope rfl rfl rfl qdX1_middleSlope ⟨Nat.le_of_ble_eq_true rfl, Nat.le_of_ble_eq_true rfl⟩) (x_preVn hK hN (x_recv hK (hP 0 _ rfl) rfl)) rfl rfl hl.1 rfl (lv_room (Nat.le_of_ble_eq_true rfl)) dX1_reckon_40 ⟨Nat.le_of_ble_eq_true rfl, Nat.le_of_ble_eq_true rfl⟩) hS (fun _ h => h) (fun r_2 H locs hfr hΦ hS => ?_)
    obtain ⟨er_2, v_3, hP⟩ := hΦ
    have hP : rP G rb (va_up (va_up (va_up (va_up (va_up ri 0 (nI (sqL L T o j).length)) 1 un3) 2 un1) 3 un2) 4 un4) (va_up (va_up (va_up (va_up ra 0 s9) 1 p9) 2 r9) 5 v_3) H := hP
    have hD : va_D A (rW G rb (va_up (va_up (va_up (va_up (va_up ri 0 (nI (sqL L T o j).length)) 1 un3) 2 un1) 3 un2) 4 un4) (va_up (va_up (va_up (va_up ra 0 s9) 1 p9) 2 r9) 5 v_3)) := hD.same rfl
    have er_2 : r_2 = (slp L T o j) := er_2.trans (if_neg (show ¬ (sqL L T o j).length < 2 by omega)).symm
    rw [er_2]
    refine va_put (D := gD G) (ci := 1) (v := .int ((slp L T o j))) (ty := .int) (C := RX1) (T := TX1) (N := 11) hx hb hts in_X1 tyX1 tyX1_ok nmX1 hown hK hP hD hS 0 rfl rfl 2 (by decide) k_f35 (fun _ h9 => h9) rfl (by decide +kernel) rfl rfl (Nat.le_of_ble_eq_true rfl) dX1_reckon_43 (fun H locs hP hD hS => ?_)
    have hP : rP G rb (va_up (va_up (va_up (va_up (va_up ri 0 (nI (sqL L T o j).length)) 1 un3) 2 (slp L T o j)) 3 un2) 4 un4) (va_up (va_up (va_up (va_up ra 0 s9) 1 p9) 2 r9) 5 v_3) H := hP
    have hD : va_D A (rW G rb (va_up (va_up (va_up (va_up (va_up ri 0 (nI (sqL L T o j).length)) 1 un3) 2 (slp L T o j)) 3 un2) 4 un4) (va_up (va_up (va_up (va_up ra 0 s9) 1 p9) 2 r9) 5 v_3)) := hD.same rfl
    refine lv_aload_n hx hb dX1_reckon_46 rfl (lv_at hl 0 rfl) ?_
    refine lv_aload_n hx hb dX1_reckon_47 rfl (lv_at hl 0 rfl) ?_
    refine x_runi (va_runV (As := []) (rest := [.ref (rb 0)]) hC (c_X1_middleBase hP hD hg ho rfl hsA hpA hrA (by omega)) (cwV 0 hts gX1_reckon_X1_middleBase rfl rfl rfl qdX1_middleBase ⟨Nat.le_of_ble_eq_true rfl, Nat.le_of_ble_eq_true rfl⟩) (x_preVn hK hN (x_recv hK (hP 0 _ rfl) rfl)) rfl rfl hl.1 rfl (lv_room (Nat.le_of_ble_eq_true rfl)) dX1_reckon_48 ⟨Nat.le_of_ble_eq_true rfl, Nat.le_of_ble_eq_true rfl⟩) hS (fun _ h => h) (fun r_4 H locs hfr hΦ hS => ?_)
    obtain ⟨er_4, v_5, hP⟩ := hΦ
    have hP : rP G rb (va_up (va_up (va_up (va_up (va_up ri 0 (nI (sqL L T o j).length)) 1 un3) 2 (slp L T o j)) 3 un2) 4 un4) (va_up (va_up (va_up (va_up (va_up ra 0 s9) 1 p9) 2 r9) 4 v_5) 5 v_3) H := hP
    have hD : va_D A (rW G rb (va_up (va_up (va_up (va_up (va_up ri 0 (nI (sqL L T o j).length)) 1 un3) 2 (slp L T o j)) 3 un2) 4 un4) (va_up (va_up (va_up (va_up (va_up ra 0 s9) 1 p9) 2 r9) 4 v_5) 5 v_3)) := hD.same rfl
    have er_4 : r_4 = (bas L T o j) := er_4.trans (if_neg (show ¬ (sqL L T o j).length < 2 by omega)).symm
    rw [er_4]
    refine va_put (D := gD G) (ci := 1) (v := .int ((bas L T o j))) (ty := .int) (C := RX1) (T := TX1) (N := 11) hx hb hts in_X1 tyX1 tyX1_ok nmX1 hown hK hP hD hS 0 rfl rfl 3 (by decide) k_f39 (fun _ h9 => h9) rfl (by decide +kernel) rfl rfl (Nat.le_of_ble_eq_true rfl) dX1_reckon_51 (fun H locs hP hD hS => ?_)
    have hP : rP G rb (va_up (va_up (va_up (va_up (va_up ri 0 (nI (sqL L T o j).length)) 1 un3) 2 (slp L T o j)) 3 (bas L T o j)) 4 un4) (va_up (va_up (va_up (va_up (va_up ra 0 s9) 1 p9) 2 r9) 4 v_5) 5 v_3) H := hP
    have hD : va_D A (rW G rb (va_up (va_up (va_up (va_up (va_up ri 0 (nI (sqL L T o j).length)) 1 un3) 2 (slp L T o j)) 3 (bas L T o j)) 4 un4) (va_up (va_up (va_up (va_up (va_up ra 0 s9) 1 p9) 2 r9) 4 v_5) 5 v_3)) := hD.same rfl
    refine lv_aload_n hx hb dX1_reckon_54 rfl (lv_at hl 0 rfl) ?_
    refine x_runv (va_runV (As := []) (rest := []) hC (c_X1_findOdd hP hD hg ho rfl hsA hpA hrA (by omega) rfl rfl (lf_nn hg ho hj (by omega))) (cwV 0 hts gX1_reckon_X1_findOdd rfl rfl rfl qdX1_findOdd ⟨Nat.le_of_ble_eq_true rfl, Nat.le_of_ble_eq_true rfl⟩) (x_preV hK (x_recv hK (hP 0 _ rfl) rfl)) rfl rfl hl.1 rfl (lv_room (Nat.le_of_ble_eq_true rfl)) dX1_reckon_55 ⟨Nat.le_of_ble_eq_true rfl, Nat.le_of_ble_eq_true rfl⟩) hS (fun _ h => h) (fun H locs hfr hΦ hS => ?_)
    obtain ⟨v9, hlf9, hP⟩ := hΦ
    have hP : rP G rb (va_up (va_up (va_up (va_up (va_up ri 0 (nI (sqL L T o j).length)) 1 (nI (sq L T o j (oddI L T o j)))) 2 (slp L T o j)) 3 (bas L T o j)) 4 (lf L T o j (oddI L T o j))) (va_up (va_up (va_up (va_up (va_up (va_up ra 0 s9) 1 p9) 2 r9) 3 v9) 4 v_5) 5 v_3) H := hP
    have hD : va_D A (rW G rb (va_up (va_up (va_up (va_up (va_up ri 0 (nI (sqL L T o j).length)) 1 (nI (sq L T o j (oddI L T o j)))) 2 (slp L T o j)) 3 (bas L T o j)) 4 (lf L T o j (oddI L T o j))) (va_up (va_up (va_up (va_up (va_up (va_up ra 0 s9) 1 p9) 2 r9) 3 v9) 4 v_5) 5 v_3)) := hD.same rfl
    exact x_vret hQ hx hb hr hlk hS.2.2 dX1_reckon_58 (⟨hS.fr, _, _, ⟨⟨rfl, hsA, hpA, hrA⟩, ⟨rfl, rfl, show _ = (if (sqL L T o j).length < 2 then _ else _) from (if_neg (show ¬ (sqL L T o j).length < 2 by omega)).symm, show _ = (if (sqL L T o j).length < 2 then _ else _) from (if_neg (show ¬ (sqL L T o j).length < 2 by omega)).symm⟩, fun _ => hlf9⟩, hP⟩)
