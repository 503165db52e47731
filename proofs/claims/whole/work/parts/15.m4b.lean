set_option maxHeartbeats 4000000 in
set_option maxRecDepth 100000 in
theorem c_X4_reckon {l : Launch} {G : gT} {A : Nat → Prop} {b : Nat → Nat} {mi : Nat → Int32} {ma : Nat → Nat → Int32} {H0 : Heap} {n hn j : Nat} {o : List Nat} (hP : mP G b mi ma H0) (hD : va_D A (mW G b mi ma)) (hg : OK n hn (ma 0) (ma 1)) (hj : j < hn) (hmn : mi 1 = nI n) (ho : IsOrd (fun s => gL (ma 0) s 0) n o) : WrV G l yX4_reckon wsX4_reckon rmX4_reckon [.ref (b 0), .int (nI j)] H0 A (fun H1 => ∃ sA rA vA : Nat → Int32, (∀ k, k < (sqL (ma 0) (ma 1) o j).length → sA k = nI (sq (ma 0) (ma 1) o j k)) ∧ (∀ k, k < (sqL (ma 0) (ma 1) o j).length → rA k = (rr (ma 0) (ma 1) o j k)) ∧ mP G b (mR mi (nI (sqL (ma 0) (ma 1) o j).length) (slp (ma 0) (ma 1) o j) (bas (ma 0) (ma 1) o j)) (aR ma sA rA vA) H1) := by
  refine x_head (bytes := cX4_reckon) (maxL := 5) (ret := none) (by decide) rfl (Nat.le_of_ble_eq_true rfl) ?_
  intro p e s m below meth c ls hx hb hml hown hts hr hlk hnm hK hs0 hl Q hQ
  have hl : lv_has ls 5 [(0, .ref (b 0)), (1, .int (nI j))] := hl
  have hC : CallFix p m c cX4_reckon 5 s [.ref (b 0), .int (nI j)].toArray wsX4_reckon RX4 := ⟨hx, hb, hml, hown, hts⟩
  have k_f103 := hts (.fieldLink RX4 103 "SundogLineModel" "many" "I") (by decide +kernel)
  have in_X4 : ∀ w ∈ u_ws RX4 TX4 11, w ∈ wsX4_reckon := by decide +kernel
  have k_c91 := hts (.constant RX4 91 (-1000000)) (by decide +kernel)
  have k_f98 := hts (.fieldLink RX4 98 "SundogLineModel" "slope" "I") (by decide +kernel)
  have k_f109 := hts (.fieldLink RX4 109 "SundogLineModel" "base" "I") (by decide +kernel)
  have hS : va_S A H0 H0 [] := va_S.rf
  have hn12 := hg.n
  have hh16 := hg.hn
  refine lv_aload_n hx hb dX4_reckon_0 rfl (lv_at hl 0 rfl) ?_
  refine lv_iconst (v := nI 0) hx hb dX4_reckon_1 (by decide +kernel) ?_
  refine va_put (D := gD G) (ci := 4) (v := .int (nI 0)) (ty := .int) (C := RX4) (T := TX4) (N := 11) hx hb hts in_X4 tyX4 tyX4_ok nmX4 hown hK hP hD hS 0 rfl rfl 7 (by decide) k_f103 (fun _ h9 => h9) rfl (by decide +kernel) rfl rfl (Nat.le_of_ble_eq_true rfl) dX4_reckon_2 (fun H locs hP hD hS => ?_)
  have hP : mP G b (va_up mi 3 (nI 0)) ma H := hP
  have hD : va_D A (mW G b (va_up mi 3 (nI 0)) ma) := hD
  refine lv_aload_n hx hb dX4_reckon_5 rfl (lv_at hl 0 rfl) ?_
  refine lv_iconst (v := (-1)) hx hb dX4_reckon_6 (by decide +kernel) ?_
  refine x_rd (va_runV (As := [.int ((-1))]) (rest := []) hC (c_X4_next hP hmn hn12) (cwV 1 hts gX4_reckon_X4_next rfl rfl rfl qdX4_next ⟨Nat.le_of_ble_eq_true rfl, Nat.le_of_ble_eq_true rfl⟩) (x_preV hK (x_recv hK (hP 0 _ rfl) rfl)) rfl rfl hl.1 rfl (lv_room (Nat.le_of_ble_eq_true rfl)) dX4_reckon_7 ⟨Nat.le_of_ble_eq_true rfl, Nat.le_of_ble_eq_true rfl⟩) ?_
  refine W.eq (g2 := F0 m 10 ls [.int (onI (nx (fun s => gL (ma 0) s 0) (-1) n))]) rfl ?_
  refine W.eq (g2 := F0 m 10 ls [.int (onI o[0]?)]) (congrArg (fun z => F0 m 10 ls (.int z :: [])) (congrArg onI (nx_first ho (fun i hi => (hg.2.1 i hi).1.1)))) ?_
  refine lv_istore_n (lv' := [(2, .int (onI o[0]?)), (0, .ref (b 0)), (1, .int (nI j))]) hx hb dX4_reckon_10 rfl hl (by decide) rfl (fun ls hl => ?_)
  refine c_X4_reckon_a (mi := mi) (ma := ma) (hD.same rfl) hg hj hmn ho hn12 hh16 hx hb hml hown hts hK ls (hP) (hS) (lv_sub hl [1, 2, 0] rfl) (fun sA rA H locs ls hsA hrA hM12 hP hS hl => ?_)
  have hD : va_D A (mW G b (va_up mi 3 (nI (sqL (ma 0) (ma 1) o j).length)) (va_up (va_up ma 2 sA) 3 rA)) := hD.same rfl
  refine lv_aload_n hx hb dX4_reckon_77 rfl (lv_at hl 0 rfl) ?_
  refine lv_ldc (v := (-1000000)) hx hb hown k_c91 dX4_reckon_78 ?_
  refine lv_topi (fun un eun => ?_)
  refine va_put (D := gD G) (ci := 4) (v := .int un) (ty := .int) (C := RX4) (T := TX4) (N := 11) hx hb hts in_X4 tyX4 tyX4_ok nmX4 hown hK hP hD hS 0 rfl rfl 8 (by decide) k_f98 (fun _ h9 => h9) rfl (by decide +kernel) rfl rfl (Nat.le_of_ble_eq_true rfl) dX4_reckon_80 (fun H locs hP hD hS => ?_)
  have hP : mP G b (va_up (va_up mi 3 (nI (sqL (ma 0) (ma 1) o j).length)) 4 un) (va_up (va_up ma 2 sA) 3 rA) H := hP
  have hD : va_D A (mW G b (va_up (va_up mi 3 (nI (sqL (ma 0) (ma 1) o j).length)) 4 un) (va_up (va_up ma 2 sA) 3 rA)) := hD
  refine lv_aload_n hx hb dX4_reckon_83 rfl (lv_at hl 0 rfl) ?_
  refine lv_ldc (v := (-1000000)) hx hb hown k_c91 dX4_reckon_84 ?_
  refine W.eq (g2 := F0 m 86 ls [.int un, .ref (b 0)]) (congrArg (fun z => F0 m 86 ls (.int z :: [.ref (b 0)])) (eun.symm)) ?_
  refine va_put (D := gD G) (ci := 4) (v := .int un) (ty := .int) (C := RX4) (T := TX4) (N := 11) hx hb hts in_X4 tyX4 tyX4_ok nmX4 hown hK hP hD hS 0 rfl rfl 9 (by decide) k_f109 (fun _ h9 => h9) rfl (by decide +kernel) rfl rfl (Nat.le_of_ble_eq_true rfl) dX4_reckon_86 (fun H locs hP hD hS => ?_)
  have hP : mP G b (va_up (va_up (va_up mi 3 (nI (sqL (ma 0) (ma 1) o j).length)) 4 un) 5 un) (va_up (va_up ma 2 sA) 3 rA) H := hP
  have hD : va_D A (mW G b (va_up (va_up (va_up mi 3 (nI (sqL (ma 0) (ma 1) o j).length)) 4 un) 5 un) (va_up (va_up ma 2 sA) 3 rA)) := hD
  refine lv_aload_n hx hb dX4_reckon_89 rfl (lv_at hl 0 rfl) ?_
  refine x_get (T := TX4) (N := 11) (v := .int (nI ((sqL (ma 0) (ma 1) o j).length))) hx hb hts in_X4 hown hK (hP 0 _ rfl) rfl 7 (by decide) k_f103 (fun _ h9 => h9) (rfl) dX4_reckon_90 ?_
  refine lv_iconst (v := nI 2) hx hb dX4_reckon_93 (by decide +kernel) ?_
  refine x_icmp_ge (tgt := 98) hx hb (by omega) (by omega) dX4_reckon_94 (by decide) (fun c_1 => ?_) (fun c_1 => ?_)
  · refine c_X4_reckon_b (mi := mi) (ma := ma) (hD.same rfl) hg hj hmn ho hn12 hh16 hx hb hml hown hts hK ls (hsA) (hrA) (hM12) (by omega) (hP) (hS) (lv_sub hl [0, 1] rfl) (fun v H locs ls hv hP hS hl => ?_)
    have hD : va_D A (mW G b (va_up (va_up (va_up mi 3 (nI (sqL (ma 0) (ma 1) o j).length)) 4 un) 5 un) (va_up (va_up (va_up ma 2 sA) 3 rA) 4 v)) := hD.same rfl
    refine lv_aload_n hx hb dX4_reckon_187 rfl (lv_at hl 0 rfl) ?_
    refine lv_aload_n hx hb dX4_reckon_188 rfl (lv_at hl 0 rfl) ?_
    refine lv_iload_n hx hb dX4_reckon_189 rfl (lv_at hl 2 rfl) ?_
    refine x_runi (va_runV (As := [.int (nI ((allS (sv (ma 0) (ma 1) o j) (sqL (ma 0) (ma 1) o j).length (sqL (ma 0) (ma 1) o j).length).length))]) (rest := [.ref (b 0)]) hC (c_X4_middle hP hD (allS_pos (sv (ma 0) (ma 1) o j) (by omega)) (by have q := allS_len (sv (ma 0) (ma 1) o j) (show (sqL (ma 0) (ma 1) o j).length ≤ 12 by omega) (sqL (ma 0) (ma 1) o j).length; omega)) (cwV 1 hts gX4_reckon_X4_middle rfl rfl rfl qdX4_middle ⟨Nat.le_of_ble_eq_true rfl, Nat.le_of_ble_eq_true rfl⟩) (x_preV hK (x_recv hK (hP 0 _ rfl) rfl)) rfl rfl hl.1 rfl (lv_room (Nat.le_of_ble_eq_true rfl)) dX4_reckon_190 ⟨Nat.le_of_ble_eq_true rfl, Nat.le_of_ble_eq_true rfl⟩) hS (fun _ h => h) (fun r_2 H locs hfr hΦ hS => ?_)
    obtain ⟨er_2, v_3, hP⟩ := hΦ
    have hP : mP G b (va_up (va_up (va_up mi 3 (nI (sqL (ma 0) (ma 1) o j).length)) 4 un) 5 un) (va_up (va_up (va_up ma 2 sA) 3 rA) 4 v_3) H := hP
    have hD : va_D A (mW G b (va_up (va_up (va_up mi 3 (nI (sqL (ma 0) (ma 1) o j).length)) 4 un) 5 un) (va_up (va_up (va_up ma 2 sA) 3 rA) 4 v_3)) := hD.same rfl
    refine W.eq (g2 := F0 m 193 ls [.int ((slp (ma 0) (ma 1) o j)), .ref (b 0)]) (congrArg (fun z => F0 m 193 ls (.int z :: [.ref (b 0)])) (by rw [er_2]; unfold slp; rw [if_neg (show ¬ (sqL (ma 0) (ma 1) o j).length < 2 by omega)]; show midL (ls' v _) = _; rw [hv])) ?_
    refine va_put (D := gD G) (ci := 4) (v := .int ((slp (ma 0) (ma 1) o j))) (ty := .int) (C := RX4) (T := TX4) (N := 11) hx hb hts in_X4 tyX4 tyX4_ok nmX4 hown hK hP hD hS 0 rfl rfl 8 (by decide) k_f98 (fun _ h9 => h9) rfl (by decide +kernel) rfl rfl (Nat.le_of_ble_eq_true rfl) dX4_reckon_193 (fun H locs hP hD hS => ?_)
    have hP : mP G b (va_up (va_up (va_up mi 3 (nI (sqL (ma 0) (ma 1) o j).length)) 4 (slp (ma 0) (ma 1) o j)) 5 un) (va_up (va_up (va_up ma 2 sA) 3 rA) 4 v_3) H := hP
    have hD : va_D A (mW G b (va_up (va_up (va_up mi 3 (nI (sqL (ma 0) (ma 1) o j).length)) 4 (slp (ma 0) (ma 1) o j)) 5 un) (va_up (va_up (va_up ma 2 sA) 3 rA) 4 v_3)) := hD
    obtain ⟨v, ev⟩ : ∃ z, z = v_3 := ⟨_, rfl⟩
    have hP : mP G b (va_up (va_up (va_up mi 3 (nI (sqL (ma 0) (ma 1) o j).length)) 4 (slp (ma 0) (ma 1) o j)) 5 un) (va_up (va_up (va_up ma 2 sA) 3 rA) 4 v) H := by rw [ev]; exact hP
    have hD : va_D A (mW G b (va_up (va_up (va_up mi 3 (nI (sqL (ma 0) (ma 1) o j).length)) 4 (slp (ma 0) (ma 1) o j)) 5 un) (va_up (va_up (va_up ma 2 sA) 3 rA) 4 v)) := hD.same rfl
    refine c_X4_reckon_c (mi := mi) (ma := ma) (hD.same rfl) hg hj hmn ho hn12 hh16 hx hb hml hown hts hK ls (hsA) (hrA) (hM12) (by omega) (hP) (hS) (lv_sub hl [0, 1] rfl) (fun v H locs ls hv hP hS hl => ?_)
    have hD : va_D A (mW G b (va_up (va_up (va_up mi 3 (nI (sqL (ma 0) (ma 1) o j).length)) 4 (slp (ma 0) (ma 1) o j)) 5 un) (va_up (va_up (va_up ma 2 sA) 3 rA) 4 v)) := hD.same rfl
    refine lv_aload_n hx hb dX4_reckon_235 rfl (lv_at hl 0 rfl) ?_
    refine lv_aload_n hx hb dX4_reckon_236 rfl (lv_at hl 0 rfl) ?_
    refine lv_aload_n hx hb dX4_reckon_237 rfl (lv_at hl 0 rfl) ?_
    refine x_get (T := TX4) (N := 11) (v := .int (nI ((sqL (ma 0) (ma 1) o j).length))) hx hb hts in_X4 hown hK (hP 0 _ rfl) rfl 7 (by decide) k_f103 (fun _ h9 => h9) (rfl) dX4_reckon_238 ?_
    refine x_runi (va_runV (As := [.int (nI ((sqL (ma 0) (ma 1) o j).length))]) (rest := [.ref (b 0)]) hC (c_X4_middle hP hD (by omega) (by omega)) (cwV 1 hts gX4_reckon_X4_middle rfl rfl rfl qdX4_middle ⟨Nat.le_of_ble_eq_true rfl, Nat.le_of_ble_eq_true rfl⟩) (x_preV hK (x_recv hK (hP 0 _ rfl) rfl)) rfl rfl hl.1 rfl (lv_room (Nat.le_of_ble_eq_true rfl)) dX4_reckon_241 ⟨Nat.le_of_ble_eq_true rfl, Nat.le_of_ble_eq_true rfl⟩) hS (fun _ h => h) (fun r_4 H locs hfr hΦ hS => ?_)
    obtain ⟨er_4, v_5, hP⟩ := hΦ
    have hP : mP G b (va_up (va_up (va_up mi 3 (nI (sqL (ma 0) (ma 1) o j).length)) 4 (slp (ma 0) (ma 1) o j)) 5 un) (va_up (va_up (va_up ma 2 sA) 3 rA) 4 v_5) H := hP
    have hD : va_D A (mW G b (va_up (va_up (va_up mi 3 (nI (sqL (ma 0) (ma 1) o j).length)) 4 (slp (ma 0) (ma 1) o j)) 5 un) (va_up (va_up (va_up ma 2 sA) 3 rA) 4 v_5)) := hD.same rfl
    refine W.eq (g2 := F0 m 244 ls [.int ((bas (ma 0) (ma 1) o j)), .ref (b 0)]) (congrArg (fun z => F0 m 244 ls (.int z :: [.ref (b 0)])) (by rw [er_4]; unfold bas; rw [if_neg (show ¬ (sqL (ma 0) (ma 1) o j).length < 2 by omega)]; exact congrArg midL (ls'_congr (fun x9 hx9 => hv x9 (by omega))))) ?_
    refine va_put (D := gD G) (ci := 4) (v := .int ((bas (ma 0) (ma 1) o j))) (ty := .int) (C := RX4) (T := TX4) (N := 11) hx hb hts in_X4 tyX4 tyX4_ok nmX4 hown hK hP hD hS 0 rfl rfl 9 (by decide) k_f109 (fun _ h9 => h9) rfl (by decide +kernel) rfl rfl (Nat.le_of_ble_eq_true rfl) dX4_reckon_244 (fun H locs hP hD hS => ?_)
    have hP : mP G b (va_up (va_up (va_up mi 3 (nI (sqL (ma 0) (ma 1) o j).length)) 4 (slp (ma 0) (ma 1) o j)) 5 (bas (ma 0) (ma 1) o j)) (va_up (va_up (va_up ma 2 sA) 3 rA) 4 v_5) H := hP
    have hD : va_D A (mW G b (va_up (va_up (va_up mi 3 (nI (sqL (ma 0) (ma 1) o j).length)) 4 (slp (ma 0) (ma 1) o j)) 5 (bas (ma 0) (ma 1) o j)) (va_up (va_up (va_up ma 2 sA) 3 rA) 4 v_5)) := hD
    exact x_vret hQ hx hb hr hlk hS.2.2 dX4_reckon_247 (⟨hS.fr, sA, rA, v_5, hsA, hrA, hP⟩)
  · exact x_vret hQ hx hb hr hlk hS.2.2 dX4_reckon_97 (by have e1 : (slp (ma 0) (ma 1) o j) = un := (if_pos (show (sqL (ma 0) (ma 1) o j).length < 2 by omega)).trans eun.symm; have e2 : (bas (ma 0) (ma 1) o j) = un := (if_pos (show (sqL (ma 0) (ma 1) o j).length < 2 by omega)).trans eun.symm; rw [e1, e2]; exact ⟨hS.fr, sA, rA, ma 4, hsA, hrA, hP⟩)
