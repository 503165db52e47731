abbrev rmJx4a65c_grow_d5877 : Room := { frames := 4, cells := 1, slots := 22, locals := 97 }
theorem qdJx4a65c_grow_d5877 : yJx4a65c_grow_d5877.cls = RJx4a65c ∧ yJx4a65c_grow_d5877.cls ≠ "java/lang/invoke/MethodHandle" ∧ yJx4a65c_grow_d5877.cls ≠ "java/lang/invoke/VarHandle" ∧ (parseMethodDescriptor yJx4a65c_grow_d5877.desc).map (fun d => d.parameters.length) = some 0 := by decide +kernel
set_option maxHeartbeats 4000000 in
set_option maxRecDepth 100000 in
theorem c_grow2B {l : Launch} {G : gT} {A : Nat → Prop} {H0 : Heap} {zA : Nat × Nat} {a ea n : Nat} {mc : Int32} {g : Nat → Option Nat} (hP : va_P (gD G) vC [(ea, eQ G n g), (a, alO mc ea n)] H0) (hD : va_D A [(ea, eQ G n g), (a, alO mc ea n)]) (hA : ∀ q, H0.size ≤ q → A q) {ci : Nat} (hci : ci = 0 ∨ ci = 2) (hel : ∀ k y, k < n → g k = some y → (∃ fs, pt G y (.inr (ci, fs)) H0) ∧ ¬ A y) (hn : n = 10 ∨ n = 15) (hne : ¬ ea = zA.1) : WzA G zA l yJx4a65c_grow_d5877 wsJx4a65c_grow_d5877 rmJx4a65c_grow_d5877 [.ref a] H0 A 1 22 (fun r H1 => ∃ (cap1 : Nat) (g1 : Nat → Option Nat), (n < cap1 ∧ capOK cap1) ∧ va_P (gD G) vC [(a, alO mc r n), (r, eQ G cap1 g1)] H1 ∧ va_D A [(a, alO mc r n), (r, eQ G cap1 g1)] ∧ ∀ k, k < n → g1 k = g k) := by
  refine x_headz (bytes := cJx4a65c_grow_d5877) (maxL := 1) (ret := (some (.array (.object "java/lang/Object")))) (by decide) rfl (Nat.le_of_ble_eq_true rfl) ?_
  intro p e s m below meth c ls hx hb hml hown hts hr hlk hnm hK hs0 hl Q hQ hZ
  have hl : lv_has ls 1 [(0, .ref a)] := hl
  have hC : CallFix p m c cJx4a65c_grow_d5877 1 s [.ref a].toArray wsJx4a65c_grow_d5877 RJx4a65c := ⟨hx, hb, hml, hown, hts⟩
  have k_f48 := hts (.fieldLink RJx4a65c 48 "java/util/ArrayList" "size" "I") (by decide +kernel)
  have in_Jx4a65c : ∀ w ∈ u_ws RJx4a65c TJx4a65c 3, w ∈ wsJx4a65c_grow_d5877 := by decide +kernel
  have hN := hZ.nn
  have hS : va_S A H0 H0 [] := va_S.rf
  refine lv_aload_n hx hb dJx4a65c_grow_d5877_0 rfl (lv_at hl 0 rfl) ?_
  refine lv_aload_n hx hb dJx4a65c_grow_d5877_1 rfl (lv_at hl 0 rfl) ?_
  refine x_get (T := TJx4a65c) (N := 3) (v := .int (nI n)) hx hb hts in_Jx4a65c hown hK (hP 1 _ rfl) rfl 2 (by decide) k_f48 (fun _ h9 => h9) (rfl) dJx4a65c_grow_d5877_2 ?_
  refine lv_iconst (v := nI 1) hx hb dJx4a65c_grow_d5877_5 (by decide +kernel) ?_
  refine x_iaddN hx hb dJx4a65c_grow_d5877_6 ?_
  refine x_runr (va_runV (As := [.int (nI (n + 1))]) (rest := []) hC (c_growB hP hD (fun q h9 => hA q (Nat.le_trans hS.1 h9)) hci (fun k y hk hy => (by obtain ⟨⟨fs, h1⟩, h2⟩ := hel k y hk hy; exact ⟨⟨fs, va_at.kept h1 (hS.2.1 _ h1.lt h2)⟩, h2⟩)) hn hne) (cwV 1 hts gJx4a65c_grow_d5877_Jx4a65c_grow_92f84 rfl rfl rfl qdJx4a65c_grow_92f84 ⟨Nat.le_of_ble_eq_true rfl, Nat.le_of_ble_eq_true rfl⟩) (x_preVz hK (hZ.at hS) (x_recv hK (hP 1 _ rfl) rfl)) rfl rfl hl.1 rfl (lv_room (Nat.le_of_ble_eq_true rfl)) dJx4a65c_grow_d5877_7 ⟨Nat.le_of_ble_eq_true rfl, Nat.le_of_ble_eq_true rfl⟩) hS (fun _ h => h) (fun r_1 H locs hfr hΦ hS => ?_)
  obtain ⟨cap1, g1, hcap, hP, hD, hg1⟩ := hΦ
  exact x_aret hQ hx hb hr (Or.inr ⟨_, rfl⟩) hlk hS.2.2 dJx4a65c_grow_d5877_10 ⟨hS.fr, cap1, g1, hcap, hP, hD, hg1⟩
set_option maxHeartbeats 4000000 in
set_option maxRecDepth 100000 in
theorem c_grow2A {l : Launch} {G : gT} {A : Nat → Prop} {H0 : Heap} {zA : Nat × Nat} {a : Nat} {mc : Int32} (hP : va_P (gD G) vC [(a, alO mc zA.1 0)] H0) (hD : va_D A [(a, alO mc zA.1 0)]) (hA : ∀ q, H0.size ≤ q → A q) : WzA G zA l yJx4a65c_grow_d5877 wsJx4a65c_grow_d5877 rmJx4a65c_grow_d5877 [.ref a] H0 A 1 22 (fun r H1 => ∃ (cap1 : Nat) (g1 : Nat → Option Nat), (0 < cap1 ∧ capOK cap1) ∧ va_P (gD G) vC [(a, alO mc r 0), (r, eQ G cap1 g1)] H1 ∧ va_D A [(a, alO mc r 0), (r, eQ G cap1 g1)] ∧ ∀ k, k < 0 → g1 k = (fun _ => none) k) := by
  refine x_headz (bytes := cJx4a65c_grow_d5877) (maxL := 1) (ret := (some (.array (.object "java/lang/Object")))) (by decide) rfl (Nat.le_of_ble_eq_true rfl) ?_
  intro p e s m below meth c ls hx hb hml hown hts hr hlk hnm hK hs0 hl Q hQ hZ
  have hl : lv_has ls 1 [(0, .ref a)] := hl
  have hC : CallFix p m c cJx4a65c_grow_d5877 1 s [.ref a].toArray wsJx4a65c_grow_d5877 RJx4a65c := ⟨hx, hb, hml, hown, hts⟩
  have k_f48 := hts (.fieldLink RJx4a65c 48 "java/util/ArrayList" "size" "I") (by decide +kernel)
  have in_Jx4a65c : ∀ w ∈ u_ws RJx4a65c TJx4a65c 3, w ∈ wsJx4a65c_grow_d5877 := by decide +kernel
  have hN := hZ.nn
  have hS : va_S A H0 H0 [] := va_S.rf
  refine lv_aload_n hx hb dJx4a65c_grow_d5877_0 rfl (lv_at hl 0 rfl) ?_
  refine lv_aload_n hx hb dJx4a65c_grow_d5877_1 rfl (lv_at hl 0 rfl) ?_
  refine x_get (T := TJx4a65c) (N := 3) (v := .int (nI 0)) hx hb hts in_Jx4a65c hown hK (hP 0 _ rfl) rfl 2 (by decide) k_f48 (fun _ h9 => h9) (rfl) dJx4a65c_grow_d5877_2 ?_
  refine lv_iconst (v := nI 1) hx hb dJx4a65c_grow_d5877_5 (by decide +kernel) ?_
  refine x_iaddN hx hb dJx4a65c_grow_d5877_6 ?_
  refine x_runr (va_runV (As := [.int (nI (0 + 1))]) (rest := []) hC (c_growA hP hD (fun q h9 => hA q (Nat.le_trans hS.1 h9)) ) (cwV 1 hts gJx4a65c_grow_d5877_Jx4a65c_grow_92f84 rfl rfl rfl qdJx4a65c_grow_92f84 ⟨Nat.le_of_ble_eq_true rfl, Nat.le_of_ble_eq_true rfl⟩) (x_preVz hK (hZ.at hS) (x_recv hK (hP 0 _ rfl) rfl)) rfl rfl hl.1 rfl (lv_room (Nat.le_of_ble_eq_true rfl)) dJx4a65c_grow_d5877_7 ⟨Nat.le_of_ble_eq_true rfl, Nat.le_of_ble_eq_true rfl⟩) hS (fun _ h => h) (fun r_1 H locs hfr hΦ hS => ?_)
  obtain ⟨cap1, g1, hcap, hP, hD, hg1⟩ := hΦ
  exact x_aret hQ hx hb hr (Or.inr ⟨_, rfl⟩) hlk hS.2.2 dJx4a65c_grow_d5877_10 ⟨hS.fr, cap1, g1, hcap, hP, hD, hg1⟩
abbrev rmJx4a65c_add_72be8 : Room := { frames := 5, cells := 1, slots := 22, locals := 117 }
theorem qdJx4a65c_add_72be8 : yJx4a65c_add_72be8.cls = RJx4a65c ∧ yJx4a65c_add_72be8.cls ≠ "java/lang/invoke/MethodHandle" ∧ yJx4a65c_add_72be8.cls ≠ "java/lang/invoke/VarHandle" ∧ (parseMethodDescriptor yJx4a65c_add_72be8.desc).map (fun d => d.parameters.length) = some 3 := by decide +kernel
set_option maxHeartbeats 4000000 in
set_option maxRecDepth 100000 in
theorem c_add3B {l : Launch} {G : gT} {A : Nat → Prop} {H0 : Heap} {zA : Nat × Nat} {a ea n : Nat} {mc : Int32} {g : Nat → Option Nat} (hP : va_P (gD G) vC [(ea, eQ G n g), (a, alO mc ea n)] H0) (hD : va_D A [(ea, eQ G n g), (a, alO mc ea n)]) (hA : ∀ q, H0.size ≤ q → A q) {ci : Nat} (hci : ci = 0 ∨ ci = 2) (hel : ∀ k y, k < n → g k = some y → (∃ fs, pt G y (.inr (ci, fs)) H0) ∧ ¬ A y) (hn : n = 10 ∨ n = 15) (hne : ¬ ea = zA.1) {v : Nat} {fs : List Value} (hv : pt G v (.inr (ci, fs)) H0) (hvA : ¬ A v) : WzV G zA l yJx4a65c_add_72be8 wsJx4a65c_add_72be8 rmJx4a65c_add_72be8 [.ref a, .ref v, .ref ea, .int (nI n)] H0 A 1 22 (fun H1 => ∃ (e1 cap1 : Nat) (g1 : Nat → Option Nat), (n + 1 ≤ cap1 ∧ capOK cap1) ∧ va_P (gD G) vC [(a, alO mc e1 (n + 1)), (e1, eQ G cap1 g1)] H1 ∧ va_D A [(a, alO mc e1 (n + 1)), (e1, eQ G cap1 g1)] ∧ (∀ k, k < n → g1 k = g k) ∧ g1 n = some v) := by
  refine x_headz (bytes := cJx4a65c_add_72be8) (maxL := 4) (ret := none) (by decide) rfl (Nat.le_of_ble_eq_true rfl) ?_
  intro p e s m below meth c ls hx hb hml hown hts hr hlk hnm hK hs0 hl Q hQ hZ
  have hl : lv_has ls 4 [(0, .ref a), (1, .ref v), (2, .ref ea), (3, .int (nI n))] := hl
  have hC : CallFix p m c cJx4a65c_add_72be8 4 s [.ref a, .ref v, .ref ea, .int (nI n)].toArray wsJx4a65c_add_72be8 RJx4a65c := ⟨hx, hb, hml, hown, hts⟩
  have k_f48 := hts (.fieldLink RJx4a65c 48 "java/util/ArrayList" "size" "I") (by decide +kernel)
  have in_Jx4a65c : ∀ w ∈ u_ws RJx4a65c TJx4a65c 3, w ∈ wsJx4a65c_add_72be8 := by decide +kernel
  have hN := hZ.nn
  have hS : va_S A H0 H0 [] := va_S.rf
  refine lv_iload_n hx hb dJx4a65c_add_72be8_0 rfl (lv_at hl 3 rfl) ?_
  refine lv_aload_n hx hb dJx4a65c_add_72be8_1 rfl (lv_at hl 2 rfl) ?_
  refine x_alen (t0 := 1) hx hb hK (hP 0 _ rfl) rfl dJx4a65c_add_72be8_2 ?_
  refine x_icmp_ne (tgt := 11) hx hb (by omega) (by omega) dJx4a65c_add_72be8_3 (by decide) (fun c_1 => ?_) (fun c_1 => ?_)
  · exact absurd rfl c_1
  · refine lv_aload_n hx hb dJx4a65c_add_72be8_6 rfl (lv_at hl 0 rfl) ?_
    refine x_runr (va_runV (As := []) (rest := []) hC (c_grow2B hP hD (fun q h9 => hA q (Nat.le_trans hS.1 h9)) hci (fun k y hk hy => (by obtain ⟨⟨fs, h1⟩, h2⟩ := hel k y hk hy; exact ⟨⟨fs, va_at.kept h1 (hS.2.1 _ h1.lt h2)⟩, h2⟩)) hn hne) (cwV 0 hts gJx4a65c_add_72be8_Jx4a65c_grow_d5877 rfl rfl rfl qdJx4a65c_grow_d5877 ⟨Nat.le_of_ble_eq_true rfl, Nat.le_of_ble_eq_true rfl⟩) (x_preVz hK (hZ.at hS) (x_recv hK (hP 1 _ rfl) rfl)) rfl rfl hl.1 rfl (lv_room (Nat.le_of_ble_eq_true rfl)) dJx4a65c_add_72be8_7 ⟨Nat.le_of_ble_eq_true rfl, Nat.le_of_ble_eq_true rfl⟩) hS (fun _ h => h) (fun r_2 H locs hfr hΦ hS => ?_)
    obtain ⟨cap1, g1, hcap, hP, hD, hg1⟩ := hΦ
    refine lv_astore_n (lv' := [(2, .ref r_2), (0, .ref a), (1, .ref v), (3, .int (nI n))]) hx hb dJx4a65c_add_72be8_10 rfl hl (by decide) rfl (fun ls hl => ?_)
    have hcA := hcap.1; have hcB : cap1 ≤ 22 := by have q := hcap.2; unfold capOK at q; omega
    refine lv_aload_n hx hb dJx4a65c_add_72be8_11 rfl (lv_at hl 0 rfl) ?_
    refine lv_iload_n hx hb dJx4a65c_add_72be8_12 rfl (lv_at hl 3 rfl) ?_
    refine lv_aload_n hx hb dJx4a65c_add_72be8_13 rfl (lv_at hl 2 rfl) ?_
    obtain ⟨q8, hq8, hca⟩ := hZ.cas hci
    refine x_aast hx hb hK hP hD hS 1 rfl (x_any hK (va_at.kept hv (hS.2.1 _ hv.lt hvA)) hq8 hca) (by omega) (by omega) dJx4a65c_add_72be8_14 (fun H locs hP hD hS => ?_)
    have hP : va_P (gD G) vC [(a, .inr (5, [.int mc, .ref r_2, .int (nI n)])), (r_2, eQ G cap1 (va_up g1 n (some v)))] H := hP
    have hD : va_D A [(a, .inr (5, [.int mc, .ref r_2, .int (nI n)])), (r_2, eQ G cap1 (va_up g1 n (some v)))] := hD
    refine lv_aload_n hx hb dJx4a65c_add_72be8_15 rfl (lv_at hl 1 rfl) ?_
    refine lv_iload_n hx hb dJx4a65c_add_72be8_16 rfl (lv_at hl 3 rfl) ?_
    refine lv_iconst (v := nI 1) hx hb dJx4a65c_add_72be8_17 (by decide +kernel) ?_
    refine x_iaddN hx hb dJx4a65c_add_72be8_18 ?_
    refine va_put (D := gD G) (ci := 5) (v := .int (nI (n + 1))) (ty := .int) (C := RJx4a65c) (T := TJx4a65c) (N := 3) hx hb hts in_Jx4a65c tyJx4a65c tyJx4a65c_ok nmJx4a65c hown hK hP hD hS 0 rfl rfl 2 (by decide) k_f48 (fun _ h9 => h9) rfl (by decide +kernel) rfl rfl (Nat.le_of_ble_eq_true rfl) dJx4a65c_add_72be8_19 (fun H locs hP hD hS => ?_)
    have hP : va_P (gD G) vC [(a, .inr (5, [.int mc, .ref r_2, .int (nI (n + 1))])), (r_2, eQ G cap1 (va_up g1 n (some v)))] H := hP
    have hD : va_D A [(a, .inr (5, [.int mc, .ref r_2, .int (nI (n + 1))])), (r_2, eQ G cap1 (va_up g1 n (some v)))] := hD
    exact x_vret hQ hx hb hr hlk hS.2.2 dJx4a65c_add_72be8_22 (⟨hS.fr, _, _, _, ⟨by have := hcap.1; omega, hcap.2⟩, hP, hD, fun k hk => (by unfold va_up; rw [if_neg (by omega)]; exact hg1 k hk), (by unfold va_up; rw [if_pos rfl])⟩)
set_option maxHeartbeats 4000000 in
set_option maxRecDepth 100000 in
theorem c_add3R {l : Launch} {G : gT} {A : Nat → Prop} {H0 : Heap} {zA : Nat × Nat} {a ea n cap : Nat} {mc : Int32} {g : Nat → Option Nat} (hP : va_P (gD G) vC [(a, alO mc ea n), (ea, eQ G cap g)] H0) (hD : va_D A [(a, alO mc ea n), (ea, eQ G cap g)]) (hA : ∀ q, H0.size ≤ q → A q) {ci : Nat} (hci : ci = 0 ∨ ci = 2) (hnc : n < cap) (hcap : capOK cap) {v : Nat} {fs : List Value} (hv : pt G v (.inr (ci, fs)) H0) (hvA : ¬ A v) : WzV G zA l yJx4a65c_add_72be8 wsJx4a65c_add_72be8 rmJx4a65c_add_72be8 [.ref a, .ref v, .ref ea, .int (nI n)] H0 A 1 22 (fun H1 => ∃ (e1 cap1 : Nat) (g1 : Nat → Option Nat), (n + 1 ≤ cap1 ∧ capOK cap1) ∧ va_P (gD G) vC [(a, alO mc e1 (n + 1)), (e1, eQ G cap1 g1)] H1 ∧ va_D A [(a, alO mc e1 (n + 1)), (e1, eQ G cap1 g1)] ∧ (∀ k, k < n → g1 k = g k) ∧ g1 n = some v) := by
  refine x_headz (bytes := cJx4a65c_add_72be8) (maxL := 4) (ret := none) (by decide) rfl (Nat.le_of_ble_eq_true rfl) ?_
  intro p e s m below meth c ls hx hb hml hown hts hr hlk hnm hK hs0 hl Q hQ hZ
  have hl : lv_has ls 4 [(0, .ref a), (1, .ref v), (2, .ref ea), (3, .int (nI n))] := hl
  have hC : CallFix p m c cJx4a65c_add_72be8 4 s [.ref a, .ref v, .ref ea, .int (nI n)].toArray wsJx4a65c_add_72be8 RJx4a65c := ⟨hx, hb, hml, hown, hts⟩
  have k_f48 := hts (.fieldLink RJx4a65c 48 "java/util/ArrayList" "size" "I") (by decide +kernel)
  have in_Jx4a65c : ∀ w ∈ u_ws RJx4a65c TJx4a65c 3, w ∈ wsJx4a65c_add_72be8 := by decide +kernel
  have hN := hZ.nn
  have hS : va_S A H0 H0 [] := va_S.rf
  have hcap22 : cap ≤ 22 := by unfold capOK at hcap; omega
  refine lv_iload_n hx hb dJx4a65c_add_72be8_0 rfl (lv_at hl 3 rfl) ?_
  refine lv_aload_n hx hb dJx4a65c_add_72be8_1 rfl (lv_at hl 2 rfl) ?_
  refine x_alen (t0 := 1) hx hb hK (hP 1 _ rfl) rfl dJx4a65c_add_72be8_2 ?_
  refine x_icmp_ne (tgt := 11) hx hb (by omega) (by omega) dJx4a65c_add_72be8_3 (by decide) (fun c_1 => ?_) (fun c_1 => ?_)
  · refine lv_aload_n hx hb dJx4a65c_add_72be8_11 rfl (lv_at hl 2 rfl) ?_
    refine lv_iload_n hx hb dJx4a65c_add_72be8_12 rfl (lv_at hl 3 rfl) ?_
    refine lv_aload_n hx hb dJx4a65c_add_72be8_13 rfl (lv_at hl 1 rfl) ?_
    obtain ⟨q8, hq8, hca⟩ := hZ.cas hci
    refine x_aast hx hb hK hP hD hS 1 rfl (x_any hK (va_at.kept hv (hS.2.1 _ hv.lt hvA)) hq8 hca) (by omega) (by omega) dJx4a65c_add_72be8_14 (fun H locs hP hD hS => ?_)
    have hP : va_P (gD G) vC [(a, .inr (5, [.int mc, .ref ea, .int (nI n)])), (ea, eQ G cap (va_up g n (some v)))] H := hP
    have hD : va_D A [(a, .inr (5, [.int mc, .ref ea, .int (nI n)])), (ea, eQ G cap (va_up g n (some v)))] := hD
    refine lv_aload_n hx hb dJx4a65c_add_72be8_15 rfl (lv_at hl 0 rfl) ?_
    refine lv_iload_n hx hb dJx4a65c_add_72be8_16 rfl (lv_at hl 3 rfl) ?_
    refine lv_iconst (v := nI 1) hx hb dJx4a65c_add_72be8_17 (by decide +kernel) ?_
    refine x_iaddN hx hb dJx4a65c_add_72be8_18 ?_
    refine va_put (D := gD G) (ci := 5) (v := .int (nI (n + 1))) (ty := .int) (C := RJx4a65c) (T := TJx4a65c) (N := 3) hx hb hts in_Jx4a65c tyJx4a65c tyJx4a65c_ok nmJx4a65c hown hK hP hD hS 0 rfl rfl 2 (by decide) k_f48 (fun _ h9 => h9) rfl (by decide +kernel) rfl rfl (Nat.le_of_ble_eq_true rfl) dJx4a65c_add_72be8_19 (fun H locs hP hD hS => ?_)
    have hP : va_P (gD G) vC [(a, .inr (5, [.int mc, .ref ea, .int (nI (n + 1))])), (ea, eQ G cap (va_up g n (some v)))] H := hP
    have hD : va_D A [(a, .inr (5, [.int mc, .ref ea, .int (nI (n + 1))])), (ea, eQ G cap (va_up g n (some v)))] := hD
    refine W.widen (k := 1) (n := 22) (Nat.zero_le _) (Nat.zero_le _) ?_
    exact x_vret hQ hx hb hr hlk hS.2.2 dJx4a65c_add_72be8_22 (⟨hS.fr, _, _, _, ⟨by omega, hcap⟩, hP, hD, fun k hk => (by unfold va_up; rw [if_neg (by omega)]), (by unfold va_up; rw [if_pos rfl])⟩)
  · exact absurd c_1 (by omega)
set_option maxHeartbeats 4000000 in
set_option maxRecDepth 100000 in
theorem c_add3A {l : Launch} {G : gT} {A : Nat → Prop} {H0 : Heap} {zA : Nat × Nat} {a : Nat} {mc : Int32} (hP : va_P (gD G) vC [(a, alO mc zA.1 0)] H0) (hD : va_D A [(a, alO mc zA.1 0)]) (hA : ∀ q, H0.size ≤ q → A q) {ci : Nat} (hci : ci = 0 ∨ ci = 2) {v : Nat} {fs : List Value} (hv : pt G v (.inr (ci, fs)) H0) (hvA : ¬ A v) : WzV G zA l yJx4a65c_add_72be8 wsJx4a65c_add_72be8 rmJx4a65c_add_72be8 [.ref a, .ref v, .ref zA.1, .int (nI 0)] H0 A 1 22 (fun H1 => ∃ (e1 cap1 : Nat) (g1 : Nat → Option Nat), (0 + 1 ≤ cap1 ∧ capOK cap1) ∧ va_P (gD G) vC [(a, alO mc e1 (0 + 1)), (e1, eQ G cap1 g1)] H1 ∧ va_D A [(a, alO mc e1 (0 + 1)), (e1, eQ G cap1 g1)] ∧ (∀ k, k < 0 → g1 k = (fun _ => none) k) ∧ g1 0 = some v) := by
  refine x_headz (bytes := cJx4a65c_add_72be8) (maxL := 4) (ret := none) (by decide) rfl (Nat.le_of_ble_eq_true rfl) ?_
  intro p e s m below meth c ls hx hb hml hown hts hr hlk hnm hK hs0 hl Q hQ hZ
  have hl : lv_has ls 4 [(0, .ref a), (1, .ref v), (2, .ref zA.1), (3, .int (nI 0))] := hl
  have hC : CallFix p m c cJx4a65c_add_72be8 4 s [.ref a, .ref v, .ref zA.1, .int (nI 0)].toArray wsJx4a65c_add_72be8 RJx4a65c := ⟨hx, hb, hml, hown, hts⟩
  have k_f48 := hts (.fieldLink RJx4a65c 48 "java/util/ArrayList" "size" "I") (by decide +kernel)
  have in_Jx4a65c : ∀ w ∈ u_ws RJx4a65c TJx4a65c 3, w ∈ wsJx4a65c_add_72be8 := by decide +kernel
  have hN := hZ.nn
  have hS : va_S A H0 H0 [] := va_S.rf
  refine lv_iload_n hx hb dJx4a65c_add_72be8_0 rfl (lv_at hl 3 rfl) ?_
  refine lv_aload_n hx hb dJx4a65c_add_72be8_1 rfl (lv_at hl 2 rfl) ?_
  refine x_tlen hx hb hs0 hZ hS dJx4a65c_add_72be8_2 ?_
  refine x_icmp_ne (tgt := 11) hx hb (by omega) (by omega) dJx4a65c_add_72be8_3 (by decide) (fun c_1 => ?_) (fun c_1 => ?_)
  · exact absurd rfl c_1
  · refine lv_aload_n hx hb dJx4a65c_add_72be8_6 rfl (lv_at hl 0 rfl) ?_
    refine x_runr (va_runV (As := []) (rest := []) hC (c_grow2A hP hD (fun q h9 => hA q (Nat.le_trans hS.1 h9)) ) (cwV 0 hts gJx4a65c_add_72be8_Jx4a65c_grow_d5877 rfl rfl rfl qdJx4a65c_grow_d5877 ⟨Nat.le_of_ble_eq_true rfl, Nat.le_of_ble_eq_true rfl⟩) (x_preVz hK (hZ.at hS) (x_recv hK (hP 0 _ rfl) rfl)) rfl rfl hl.1 rfl (lv_room (Nat.le_of_ble_eq_true rfl)) dJx4a65c_add_72be8_7 ⟨Nat.le_of_ble_eq_true rfl, Nat.le_of_ble_eq_true rfl⟩) hS (fun _ h => h) (fun r_2 H locs hfr hΦ hS => ?_)
    obtain ⟨cap1, g1, hcap, hP, hD, hg1⟩ := hΦ
    refine lv_astore_n (lv' := [(2, .ref r_2), (0, .ref a), (1, .ref v), (3, .int (nI 0))]) hx hb dJx4a65c_add_72be8_10 rfl hl (by decide) rfl (fun ls hl => ?_)
    have hcA := hcap.1; have hcB : cap1 ≤ 22 := by have q := hcap.2; unfold capOK at q; omega
    refine lv_aload_n hx hb dJx4a65c_add_72be8_11 rfl (lv_at hl 0 rfl) ?_
    refine lv_iload_n hx hb dJx4a65c_add_72be8_12 rfl (lv_at hl 3 rfl) ?_
    refine lv_aload_n hx hb dJx4a65c_add_72be8_13 rfl (lv_at hl 2 rfl) ?_
    obtain ⟨q8, hq8, hca⟩ := hZ.cas hci
    refine x_aast hx hb hK hP hD hS 1 rfl (x_any hK (va_at.kept hv (hS.2.1 _ hv.lt hvA)) hq8 hca) (by omega) (by omega) dJx4a65c_add_72be8_14 (fun H locs hP hD hS => ?_)
    have hP : va_P (gD G) vC [(a, .inr (5, [.int mc, .ref r_2, .int (nI 0)])), (r_2, eQ G cap1 (va_up g1 0 (some v)))] H := hP
    have hD : va_D A [(a, .inr (5, [.int mc, .ref r_2, .int (nI 0)])), (r_2, eQ G cap1 (va_up g1 0 (some v)))] := hD
    refine lv_aload_n hx hb dJx4a65c_add_72be8_15 rfl (lv_at hl 1 rfl) ?_
    refine lv_iload_n hx hb dJx4a65c_add_72be8_16 rfl (lv_at hl 3 rfl) ?_
    refine lv_iconst (v := nI 1) hx hb dJx4a65c_add_72be8_17 (by decide +kernel) ?_
    refine x_iaddN hx hb dJx4a65c_add_72be8_18 ?_
    refine va_put (D := gD G) (ci := 5) (v := .int (nI (0 + 1))) (ty := .int) (C := RJx4a65c) (T := TJx4a65c) (N := 3) hx hb hts in_Jx4a65c tyJx4a65c tyJx4a65c_ok nmJx4a65c hown hK hP hD hS 0 rfl rfl 2 (by decide) k_f48 (fun _ h9 => h9) rfl (by decide +kernel) rfl rfl (Nat.le_of_ble_eq_true rfl) dJx4a65c_add_72be8_19 (fun H locs hP hD hS => ?_)
    have hP : va_P (gD G) vC [(a, .inr (5, [.int mc, .ref r_2, .int (nI (0 + 1))])), (r_2, eQ G cap1 (va_up g1 0 (some v)))] H := hP
    have hD : va_D A [(a, .inr (5, [.int mc, .ref r_2, .int (nI (0 + 1))])), (r_2, eQ G cap1 (va_up g1 0 (some v)))] := hD
    exact x_vret hQ hx hb hr hlk hS.2.2 dJx4a65c_add_72be8_22 (⟨hS.fr, _, _, _, ⟨by have := hcap.1; omega, hcap.2⟩, hP, hD, fun k hk => absurd hk (Nat.not_lt_zero _), (by unfold va_up; rw [if_pos rfl])⟩)
abbrev rmJx4a65c_add_9ea2d : Room := { frames := 6, cells := 1, slots := 22, locals := 140 }
theorem qdJx4a65c_add_9ea2d : yJx4a65c_add_9ea2d.cls = RJx4a65c ∧ yJx4a65c_add_9ea2d.cls ≠ "java/lang/invoke/MethodHandle" ∧ yJx4a65c_add_9ea2d.cls ≠ "java/lang/invoke/VarHandle" ∧ (parseMethodDescriptor yJx4a65c_add_9ea2d.desc).map (fun d => d.parameters.length) = some 1 := by decide +kernel
set_option maxHeartbeats 4000000 in
set_option maxRecDepth 100000 in
theorem c_addB {l : Launch} {G : gT} {A : Nat → Prop} {H0 : Heap} {zA : Nat × Nat} {a ea n : Nat} {mc : Int32} {g : Nat → Option Nat} (hP : va_P (gD G) vC [(ea, eQ G n g), (a, alO mc ea n)] H0) (hD : va_D A [(ea, eQ G n g), (a, alO mc ea n)]) (hA : ∀ q, H0.size ≤ q → A q) {ci : Nat} (hci : ci = 0 ∨ ci = 2) (hel : ∀ k y, k < n → g k = some y → (∃ fs, pt G y (.inr (ci, fs)) H0) ∧ ¬ A y) (hn : n = 10 ∨ n = 15) (hne : ¬ ea = zA.1) {v : Nat} {fs : List Value} (hv : pt G v (.inr (ci, fs)) H0) (hvA : ¬ A v) : WzI G zA l yJx4a65c_add_9ea2d wsJx4a65c_add_9ea2d rmJx4a65c_add_9ea2d [.ref a, .ref v] H0 A 1 22 (fun r H1 => ∃ (e1 cap1 : Nat) (g1 : Nat → Option Nat), (n + 1 ≤ cap1 ∧ capOK cap1) ∧ va_P (gD G) vC [(a, alO (mc + nI 1) e1 (n + 1)), (e1, eQ G cap1 g1)] H1 ∧ va_D A [(a, alO (mc + nI 1) e1 (n + 1)), (e1, eQ G cap1 g1)] ∧ (∀ k, k < n → g1 k = g k) ∧ g1 n = some v) := by
  refine x_headz (bytes := cJx4a65c_add_9ea2d) (maxL := 2) (ret := (some .boolean)) (by decide) rfl (Nat.le_of_ble_eq_true rfl) ?_
  intro p e s m below meth c ls hx hb hml hown hts hr hlk hnm hK hs0 hl Q hQ hZ
  have hl : lv_has ls 2 [(0, .ref a), (1, .ref v)] := hl
  have hC : CallFix p m c cJx4a65c_add_9ea2d 2 s [.ref a, .ref v].toArray wsJx4a65c_add_9ea2d RJx4a65c := ⟨hx, hb, hml, hown, hts⟩
  have k_same := hts (.sameField "java/util/ArrayList" "java/util/AbstractList" "modCount" "I") (by decide +kernel)
  have k_f63 := hts (.fieldLink RJx4a65c 63 "java/util/ArrayList" "modCount" "I") (by decide +kernel)
  have in_Jx4a65c : ∀ w ∈ u_ws RJx4a65c TJx4a65c 3, w ∈ wsJx4a65c_add_9ea2d := by decide +kernel
  have k_f9 := hts (.fieldLink RJx4a65c 9 "java/util/ArrayList" "elementData" "[Ljava/lang/Object;") (by decide +kernel)
  have k_f48 := hts (.fieldLink RJx4a65c 48 "java/util/ArrayList" "size" "I") (by decide +kernel)
  have hN := hZ.nn
  have hS : va_S A H0 H0 [] := va_S.rf
  refine lv_aload_n hx hb dJx4a65c_add_9ea2d_0 rfl (lv_at hl 0 rfl) ?_
  refine lv_dup hx hb dJx4a65c_add_9ea2d_1 rfl ?_
  refine x_get (T := TJx4a65c) (N := 3) (v := .int mc) hx hb hts in_Jx4a65c hown hK (hP 1 _ rfl) rfl 0 (by decide) k_f63 (fun x9 h9 => u_same k_same x9 h9) (rfl) dJx4a65c_add_9ea2d_2 ?_
  refine lv_iconst (v := nI 1) hx hb dJx4a65c_add_9ea2d_5 (by decide +kernel) ?_
  refine lv_iadd hx hb dJx4a65c_add_9ea2d_6 ?_
  refine va_put (D := gD G) (ci := 5) (v := .int (mc + (nI 1))) (ty := .int) (C := RJx4a65c) (T := TJx4a65c) (N := 3) hx hb hts in_Jx4a65c tyJx4a65c tyJx4a65c_ok nmJx4a65c hown hK hP hD hS 1 rfl rfl 0 (by decide) k_f63 (fun x9 h9 => u_same k_same x9 h9) rfl (by decide +kernel) rfl rfl (Nat.le_of_ble_eq_true rfl) dJx4a65c_add_9ea2d_7 (fun H locs hP hD hS => ?_)
  have hP : va_P (gD G) vC [(ea, eQ G n g), (a, .inr (5, [.int (mc + (nI 1)), .ref ea, .int (nI n)]))] H := hP
  have hD : va_D A [(ea, eQ G n g), (a, .inr (5, [.int (mc + (nI 1)), .ref ea, .int (nI n)]))] := hD
  refine lv_aload_n hx hb dJx4a65c_add_9ea2d_10 rfl (lv_at hl 0 rfl) ?_
  refine lv_aload_n hx hb dJx4a65c_add_9ea2d_11 rfl (lv_at hl 1 rfl) ?_
  refine lv_aload_n hx hb dJx4a65c_add_9ea2d_12 rfl (lv_at hl 0 rfl) ?_
  refine x_get (T := TJx4a65c) (N := 3) (v := .ref ea) hx hb hts in_Jx4a65c hown hK (hP 1 _ rfl) rfl 1 (by decide) k_f9 (fun _ h9 => h9) (rfl) dJx4a65c_add_9ea2d_13 ?_
  refine lv_aload_n hx hb dJx4a65c_add_9ea2d_16 rfl (lv_at hl 0 rfl) ?_
  refine x_get (T := TJx4a65c) (N := 3) (v := .int (nI n)) hx hb hts in_Jx4a65c hown hK (hP 1 _ rfl) rfl 2 (by decide) k_f48 (fun _ h9 => h9) (rfl) dJx4a65c_add_9ea2d_17 ?_
  refine x_runv (va_runV (As := [.ref v, .ref ea, .int (nI n)]) (rest := []) hC (c_add3B hP hD (fun q h9 => hA q (Nat.le_trans hS.1 h9)) hci (fun k y hk hy => (by obtain ⟨⟨fs, h1⟩, h2⟩ := hel k y hk hy; exact ⟨⟨fs, va_at.kept h1 (hS.2.1 _ h1.lt h2)⟩, h2⟩)) hn hne (va_at.kept hv (hS.2.1 _ hv.lt hvA)) hvA) (cwV 3 hts gJx4a65c_add_9ea2d_Jx4a65c_add_72be8 rfl rfl rfl qdJx4a65c_add_72be8 ⟨Nat.le_of_ble_eq_true rfl, Nat.le_of_ble_eq_true rfl⟩) (x_preVz hK (hZ.at hS) (x_recv hK (hP 1 _ rfl) rfl)) rfl rfl hl.1 rfl (lv_room (Nat.le_of_ble_eq_true rfl)) dJx4a65c_add_9ea2d_20 ⟨Nat.le_of_ble_eq_true rfl, Nat.le_of_ble_eq_true rfl⟩) hS (fun _ h => h) (fun H locs hfr hΦ hS => ?_)
  refine lv_iconst (v := nI 1) hx hb dJx4a65c_add_9ea2d_23 (by decide +kernel) ?_
  exact x_iret hQ hx hb hr (by decide) hlk hS.2.2 dJx4a65c_add_9ea2d_24 ⟨hS.fr, hΦ⟩
set_option maxHeartbeats 4000000 in
set_option maxRecDepth 100000 in
theorem c_addR {l : Launch} {G : gT} {A : Nat → Prop} {H0 : Heap} {zA : Nat × Nat} {a ea n cap : Nat} {mc : Int32} {g : Nat → Option Nat} (hP : va_P (gD G) vC [(a, alO mc ea n), (ea, eQ G cap g)] H0) (hD : va_D A [(a, alO mc ea n), (ea, eQ G cap g)]) (hA : ∀ q, H0.size ≤ q → A q) {ci : Nat} (hci : ci = 0 ∨ ci = 2) (hnc : n < cap) (hcap : capOK cap) {v : Nat} {fs : List Value} (hv : pt G v (.inr (ci, fs)) H0) (hvA : ¬ A v) : WzI G zA l yJx4a65c_add_9ea2d wsJx4a65c_add_9ea2d rmJx4a65c_add_9ea2d [.ref a, .ref v] H0 A 1 22 (fun r H1 => ∃ (e1 cap1 : Nat) (g1 : Nat → Option Nat), (n + 1 ≤ cap1 ∧ capOK cap1) ∧ va_P (gD G) vC [(a, alO (mc + nI 1) e1 (n + 1)), (e1, eQ G cap1 g1)] H1 ∧ va_D A [(a, alO (mc + nI 1) e1 (n + 1)), (e1, eQ G cap1 g1)] ∧ (∀ k, k < n → g1 k = g k) ∧ g1 n = some v) := by
  refine x_headz (bytes := cJx4a65c_add_9ea2d) (maxL := 2) (ret := (some .boolean)) (by decide) rfl (Nat.le_of_ble_eq_true rfl) ?_
  intro p e s m below meth c ls hx hb hml hown hts hr hlk hnm hK hs0 hl Q hQ hZ
  have hl : lv_has ls 2 [(0, .ref a), (1, .ref v)] := hl
  have hC : CallFix p m c cJx4a65c_add_9ea2d 2 s [.ref a, .ref v].toArray wsJx4a65c_add_9ea2d RJx4a65c := ⟨hx, hb, hml, hown, hts⟩
  have k_same := hts (.sameField "java/util/ArrayList" "java/util/AbstractList" "modCount" "I") (by decide +kernel)
  have k_f63 := hts (.fieldLink RJx4a65c 63 "java/util/ArrayList" "modCount" "I") (by decide +kernel)
  have in_Jx4a65c : ∀ w ∈ u_ws RJx4a65c TJx4a65c 3, w ∈ wsJx4a65c_add_9ea2d := by decide +kernel
  have k_f9 := hts (.fieldLink RJx4a65c 9 "java/util/ArrayList" "elementData" "[Ljava/lang/Object;") (by decide +kernel)
  have k_f48 := hts (.fieldLink RJx4a65c 48 "java/util/ArrayList" "size" "I") (by decide +kernel)
  have hN := hZ.nn
  have hS : va_S A H0 H0 [] := va_S.rf
  refine lv_aload_n hx hb dJx4a65c_add_9ea2d_0 rfl (lv_at hl 0 rfl) ?_
  refine lv_dup hx hb dJx4a65c_add_9ea2d_1 rfl ?_
  refine x_get (T := TJx4a65c) (N := 3) (v := .int mc) hx hb hts in_Jx4a65c hown hK (hP 0 _ rfl) rfl 0 (by decide) k_f63 (fun x9 h9 => u_same k_same x9 h9) (rfl) dJx4a65c_add_9ea2d_2 ?_
  refine lv_iconst (v := nI 1) hx hb dJx4a65c_add_9ea2d_5 (by decide +kernel) ?_
  refine lv_iadd hx hb dJx4a65c_add_9ea2d_6 ?_
  refine va_put (D := gD G) (ci := 5) (v := .int (mc + (nI 1))) (ty := .int) (C := RJx4a65c) (T := TJx4a65c) (N := 3) hx hb hts in_Jx4a65c tyJx4a65c tyJx4a65c_ok nmJx4a65c hown hK hP hD hS 0 rfl rfl 0 (by decide) k_f63 (fun x9 h9 => u_same k_same x9 h9) rfl (by decide +kernel) rfl rfl (Nat.le_of_ble_eq_true rfl) dJx4a65c_add_9ea2d_7 (fun H locs hP hD hS => ?_)
  have hP : va_P (gD G) vC [(a, .inr (5, [.int (mc + (nI 1)), .ref ea, .int (nI n)])), (ea, eQ G cap g)] H := hP
  have hD : va_D A [(a, .inr (5, [.int (mc + (nI 1)), .ref ea, .int (nI n)])), (ea, eQ G cap g)] := hD
  refine lv_aload_n hx hb dJx4a65c_add_9ea2d_10 rfl (lv_at hl 0 rfl) ?_
  refine lv_aload_n hx hb dJx4a65c_add_9ea2d_11 rfl (lv_at hl 1 rfl) ?_
  refine lv_aload_n hx hb dJx4a65c_add_9ea2d_12 rfl (lv_at hl 0 rfl) ?_
  refine x_get (T := TJx4a65c) (N := 3) (v := .ref ea) hx hb hts in_Jx4a65c hown hK (hP 0 _ rfl) rfl 1 (by decide) k_f9 (fun _ h9 => h9) (rfl) dJx4a65c_add_9ea2d_13 ?_
  refine lv_aload_n hx hb dJx4a65c_add_9ea2d_16 rfl (lv_at hl 0 rfl) ?_
  refine x_get (T := TJx4a65c) (N := 3) (v := .int (nI n)) hx hb hts in_Jx4a65c hown hK (hP 0 _ rfl) rfl 2 (by decide) k_f48 (fun _ h9 => h9) (rfl) dJx4a65c_add_9ea2d_17 ?_
  refine x_runv (va_runV (As := [.ref v, .ref ea, .int (nI n)]) (rest := []) hC (c_add3R hP hD (fun q h9 => hA q (Nat.le_trans hS.1 h9)) hci hnc hcap (va_at.kept hv (hS.2.1 _ hv.lt hvA)) hvA) (cwV 3 hts gJx4a65c_add_9ea2d_Jx4a65c_add_72be8 rfl rfl rfl qdJx4a65c_add_72be8 ⟨Nat.le_of_ble_eq_true rfl, Nat.le_of_ble_eq_true rfl⟩) (x_preVz hK (hZ.at hS) (x_recv hK (hP 0 _ rfl) rfl)) rfl rfl hl.1 rfl (lv_room (Nat.le_of_ble_eq_true rfl)) dJx4a65c_add_9ea2d_20 ⟨Nat.le_of_ble_eq_true rfl, Nat.le_of_ble_eq_true rfl⟩) hS (fun _ h => h) (fun H locs hfr hΦ hS => ?_)
  refine lv_iconst (v := nI 1) hx hb dJx4a65c_add_9ea2d_23 (by decide +kernel) ?_
  exact x_iret hQ hx hb hr (by decide) hlk hS.2.2 dJx4a65c_add_9ea2d_24 ⟨hS.fr, hΦ⟩
set_option maxHeartbeats 4000000 in
set_option maxRecDepth 100000 in
theorem c_addA {l : Launch} {G : gT} {A : Nat → Prop} {H0 : Heap} {zA : Nat × Nat} {a : Nat} {mc : Int32} (hP : va_P (gD G) vC [(a, alO mc zA.1 0)] H0) (hD : va_D A [(a, alO mc zA.1 0)]) (hA : ∀ q, H0.size ≤ q → A q) {ci : Nat} (hci : ci = 0 ∨ ci = 2) {v : Nat} {fs : List Value} (hv : pt G v (.inr (ci, fs)) H0) (hvA : ¬ A v) : WzI G zA l yJx4a65c_add_9ea2d wsJx4a65c_add_9ea2d rmJx4a65c_add_9ea2d [.ref a, .ref v] H0 A 1 22 (fun r H1 => ∃ (e1 cap1 : Nat) (g1 : Nat → Option Nat), (0 + 1 ≤ cap1 ∧ capOK cap1) ∧ va_P (gD G) vC [(a, alO (mc + nI 1) e1 (0 + 1)), (e1, eQ G cap1 g1)] H1 ∧ va_D A [(a, alO (mc + nI 1) e1 (0 + 1)), (e1, eQ G cap1 g1)] ∧ (∀ k, k < 0 → g1 k = (fun _ => none) k) ∧ g1 0 = some v) := by
  refine x_headz (bytes := cJx4a65c_add_9ea2d) (maxL := 2) (ret := (some .boolean)) (by decide) rfl (Nat.le_of_ble_eq_true rfl) ?_
  intro p e s m below meth c ls hx hb hml hown hts hr hlk hnm hK hs0 hl Q hQ hZ
  have hl : lv_has ls 2 [(0, .ref a), (1, .ref v)] := hl
  have hC : CallFix p m c cJx4a65c_add_9ea2d 2 s [.ref a, .ref v].toArray wsJx4a65c_add_9ea2d RJx4a65c := ⟨hx, hb, hml, hown, hts⟩
  have k_same := hts (.sameField "java/util/ArrayList" "java/util/AbstractList" "modCount" "I") (by decide +kernel)
  have k_f63 := hts (.fieldLink RJx4a65c 63 "java/util/ArrayList" "modCount" "I") (by decide +kernel)
  have in_Jx4a65c : ∀ w ∈ u_ws RJx4a65c TJx4a65c 3, w ∈ wsJx4a65c_add_9ea2d := by decide +kernel
  have k_f9 := hts (.fieldLink RJx4a65c 9 "java/util/ArrayList" "elementData" "[Ljava/lang/Object;") (by decide +kernel)
  have k_f48 := hts (.fieldLink RJx4a65c 48 "java/util/ArrayList" "size" "I") (by decide +kernel)
  have hN := hZ.nn
  have hS : va_S A H0 H0 [] := va_S.rf
  refine lv_aload_n hx hb dJx4a65c_add_9ea2d_0 rfl (lv_at hl 0 rfl) ?_
  refine lv_dup hx hb dJx4a65c_add_9ea2d_1 rfl ?_
  refine x_get (T := TJx4a65c) (N := 3) (v := .int mc) hx hb hts in_Jx4a65c hown hK (hP 0 _ rfl) rfl 0 (by decide) k_f63 (fun x9 h9 => u_same k_same x9 h9) (rfl) dJx4a65c_add_9ea2d_2 ?_
  refine lv_iconst (v := nI 1) hx hb dJx4a65c_add_9ea2d_5 (by decide +kernel) ?_
  refine lv_iadd hx hb dJx4a65c_add_9ea2d_6 ?_
  refine va_put (D := gD G) (ci := 5) (v := .int (mc + (nI 1))) (ty := .int) (C := RJx4a65c) (T := TJx4a65c) (N := 3) hx hb hts in_Jx4a65c tyJx4a65c tyJx4a65c_ok nmJx4a65c hown hK hP hD hS 0 rfl rfl 0 (by decide) k_f63 (fun x9 h9 => u_same k_same x9 h9) rfl (by decide +kernel) rfl rfl (Nat.le_of_ble_eq_true rfl) dJx4a65c_add_9ea2d_7 (fun H locs hP hD hS => ?_)
  have hP : va_P (gD G) vC [(a, .inr (5, [.int (mc + (nI 1)), .ref zA.1, .int (nI 0)]))] H := hP
  have hD : va_D A [(a, .inr (5, [.int (mc + (nI 1)), .ref zA.1, .int (nI 0)]))] := hD
  refine lv_aload_n hx hb dJx4a65c_add_9ea2d_10 rfl (lv_at hl 0 rfl) ?_
  refine lv_aload_n hx hb dJx4a65c_add_9ea2d_11 rfl (lv_at hl 1 rfl) ?_
  refine lv_aload_n hx hb dJx4a65c_add_9ea2d_12 rfl (lv_at hl 0 rfl) ?_
  refine x_get (T := TJx4a65c) (N := 3) (v := .ref zA.1) hx hb hts in_Jx4a65c hown hK (hP 0 _ rfl) rfl 1 (by decide) k_f9 (fun _ h9 => h9) (rfl) dJx4a65c_add_9ea2d_13 ?_
  refine lv_aload_n hx hb dJx4a65c_add_9ea2d_16 rfl (lv_at hl 0 rfl) ?_
  refine x_get (T := TJx4a65c) (N := 3) (v := .int (nI 0)) hx hb hts in_Jx4a65c hown hK (hP 0 _ rfl) rfl 2 (by decide) k_f48 (fun _ h9 => h9) (rfl) dJx4a65c_add_9ea2d_17 ?_
  refine x_runv (va_runV (As := [.ref v, .ref zA.1, .int (nI 0)]) (rest := []) hC (c_add3A hP hD (fun q h9 => hA q (Nat.le_trans hS.1 h9)) hci (va_at.kept hv (hS.2.1 _ hv.lt hvA)) hvA) (cwV 3 hts gJx4a65c_add_9ea2d_Jx4a65c_add_72be8 rfl rfl rfl qdJx4a65c_add_72be8 ⟨Nat.le_of_ble_eq_true rfl, Nat.le_of_ble_eq_true rfl⟩) (x_preVz hK (hZ.at hS) (x_recv hK (hP 0 _ rfl) rfl)) rfl rfl hl.1 rfl (lv_room (Nat.le_of_ble_eq_true rfl)) dJx4a65c_add_9ea2d_20 ⟨Nat.le_of_ble_eq_true rfl, Nat.le_of_ble_eq_true rfl⟩) hS (fun _ h => h) (fun H locs hfr hΦ hS => ?_)
  refine lv_iconst (v := nI 1) hx hb dJx4a65c_add_9ea2d_23 (by decide +kernel) ?_
  exact x_iret hQ hx hb hr (by decide) hlk hS.2.2 dJx4a65c_add_9ea2d_24 ⟨hS.fr, hΦ⟩
abbrev rmJx4a65c_rangeCheckForAdd_d00df : Room := { frames := 0, cells := 0, slots := 0, locals := 0 }
theorem qdJx4a65c_rangeCheckForAdd_d00df : yJx4a65c_rangeCheckForAdd_d00df.cls = RJx4a65c ∧ yJx4a65c_rangeCheckForAdd_d00df.cls ≠ "java/lang/invoke/MethodHandle" ∧ yJx4a65c_rangeCheckForAdd_d00df.cls ≠ "java/lang/invoke/VarHandle" ∧ (parseMethodDescriptor yJx4a65c_rangeCheckForAdd_d00df.desc).map (fun d => d.parameters.length) = some 1 := by decide +kernel
set_option maxHeartbeats 4000000 in
set_option maxRecDepth 100000 in
theorem c_Jx4a65c_rangeCheckForAdd_d00df {l : Launch} {G : gT} {A : Nat → Prop} {H0 : Heap} {a ea n i : Nat} {mc : Int32} (h1 : pt G a (alO mc ea n) H0) (hin : i ≤ n) (hn : n < 2 ^ 31) : WrV G l yJx4a65c_rangeCheckForAdd_d00df wsJx4a65c_rangeCheckForAdd_d00df rmJx4a65c_rangeCheckForAdd_d00df [.ref a, .int (nI i)] H0 A (fun H1 => H1 = H0) := by
  refine x_head (bytes := cJx4a65c_rangeCheckForAdd_d00df) (maxL := 2) (ret := none) (by decide) rfl (Nat.le_of_ble_eq_true rfl) ?_
  intro p e s m below meth c ls hx hb hml hown hts hr hlk hnm hK hs0 hl Q hQ
  have hl : lv_has ls 2 [(0, .ref a), (1, .int (nI i))] := hl
  have hC : CallFix p m c cJx4a65c_rangeCheckForAdd_d00df 2 s [.ref a, .int (nI i)].toArray wsJx4a65c_rangeCheckForAdd_d00df RJx4a65c := ⟨hx, hb, hml, hown, hts⟩
  have k_f48 := hts (.fieldLink RJx4a65c 48 "java/util/ArrayList" "size" "I") (by decide +kernel)
  have in_Jx4a65c : ∀ w ∈ u_ws RJx4a65c TJx4a65c 3, w ∈ wsJx4a65c_rangeCheckForAdd_d00df := by decide +kernel
  have hS : va_S A H0 H0 [] := va_S.rf
  refine lv_iload_n hx hb dJx4a65c_rangeCheckForAdd_d00df_0 rfl (lv_at hl 1 rfl) ?_
  refine lv_aload_n hx hb dJx4a65c_rangeCheckForAdd_d00df_1 rfl (lv_at hl 0 rfl) ?_
  refine x_get (T := TJx4a65c) (N := 3) (v := .int (nI n)) hx hb hts in_Jx4a65c hown hK (h1) rfl 2 (by decide) k_f48 (fun _ h9 => h9) (rfl) dJx4a65c_rangeCheckForAdd_d00df_2 ?_
  refine x_icmp_gt (tgt := 12) hx hb (by omega) (by omega) dJx4a65c_rangeCheckForAdd_d00df_5 (by decide) (fun c_1 => ?_) (fun c_1 => ?_)
  · exact absurd c_1 (by omega)
  · refine lv_iload_n hx hb dJx4a65c_rangeCheckForAdd_d00df_8 rfl (lv_at hl 1 rfl) ?_
    refine lv_if_ge (tgt := 25) hx hb dJx4a65c_rangeCheckForAdd_d00df_9 (by decide) (fun c_2 => ?_) (fun c_2 => ?_)
    · exact x_vret hQ hx hb hr hlk hS.2.2 dJx4a65c_rangeCheckForAdd_d00df_25 (⟨hS.fr, rfl⟩)
    · exact absurd (show (0 : Int32) ≤ nI i from Int32.not_lt.mp (nI_pos (by omega))) c_2
/-- v put in at i -/
def insF (g : Nat → Option Nat) (i v : Nat) : Nat → Option Nat := fun k => if k < i then g k else if k = i then some v else g (k - 1)
theorem ins_eq {g g1 : Nat → Option Nat} {i n v : Nat} (hin : i ≤ n) (h : ∀ k, k < n → g1 k = g k) : ∀ k, k < n + 1 → va_up (va_cpy g1 g1 i (i + 1) (n - i)) i (some v) k = insF g i v k := fun k hk => by
  unfold va_up insF
  by_cases e : k = i
  · rw [if_pos e, if_neg (by omega), if_pos e]
  · rw [if_neg e]
    by_cases c : k < i
    · rw [if_pos c, pk_cpy_out (Or.inl (by omega))]; exact h k (by omega)
    · rw [if_neg c, if_neg e, pk_cpy_in (by omega) (by omega), show i + (k - (i + 1)) = k - 1 by omega]; exact h (k - 1) (by omega)
abbrev rmJx4a65c_add_7a177 : Room := { frames := 5, cells := 1, slots := 22, locals := 117 }
theorem qdJx4a65c_add_7a177 : yJx4a65c_add_7a177.cls = RJx4a65c ∧ yJx4a65c_add_7a177.cls ≠ "java/lang/invoke/MethodHandle" ∧ yJx4a65c_add_7a177.cls ≠ "java/lang/invoke/VarHandle" ∧ (parseMethodDescriptor yJx4a65c_add_7a177.desc).map (fun d => d.parameters.length) = some 2 := by decide +kernel
set_option maxHeartbeats 4000000 in
set_option maxRecDepth 100000 in
theorem c_addIB {l : Launch} {G : gT} {A : Nat → Prop} {H0 : Heap} {zA : Nat × Nat} {a ea n : Nat} {mc : Int32} {g : Nat → Option Nat} (hP : va_P (gD G) vC [(ea, eQ G n g), (a, alO mc ea n)] H0) (hD : va_D A [(ea, eQ G n g), (a, alO mc ea n)]) (hA : ∀ q, H0.size ≤ q → A q) {ci : Nat} (hci : ci = 0 ∨ ci = 2) (hel : ∀ k y, k < n → g k = some y → (∃ fs, pt G y (.inr (ci, fs)) H0) ∧ ¬ A y) (hn : n = 10 ∨ n = 15) (hne : ¬ ea = zA.1) {v : Nat} {fs : List Value} (hv : pt G v (.inr (ci, fs)) H0) (hvA : ¬ A v) {i : Nat} (hin : i ≤ n) : WzV G zA l yJx4a65c_add_7a177 wsJx4a65c_add_7a177 rmJx4a65c_add_7a177 [.ref a, .int (nI i), .ref v] H0 A 1 22 (fun H1 => ∃ (e1 cap1 : Nat) (g1 : Nat → Option Nat), (n + 1 ≤ cap1 ∧ capOK cap1) ∧ va_P (gD G) vC [(a, alO (mc + nI 1) e1 (n + 1)), (e1, eQ G cap1 g1)] H1 ∧ va_D A [(a, alO (mc + nI 1) e1 (n + 1)), (e1, eQ G cap1 g1)] ∧ ∀ k, k < n + 1 → g1 k = insF g i v k) := by
  refine x_headz (bytes := cJx4a65c_add_7a177) (maxL := 5) (ret := none) (by decide) rfl (Nat.le_of_ble_eq_true rfl) ?_
  intro p e s m below meth c ls hx hb hml hown hts hr hlk hnm hK hs0 hl Q hQ hZ
  have hl : lv_has ls 5 [(0, .ref a), (1, .int (nI i)), (2, .ref v)] := hl
  have hC : CallFix p m c cJx4a65c_add_7a177 5 s [.ref a, .int (nI i), .ref v].toArray wsJx4a65c_add_7a177 RJx4a65c := ⟨hx, hb, hml, hown, hts⟩
  have k_same := hts (.sameField "java/util/ArrayList" "java/util/AbstractList" "modCount" "I") (by decide +kernel)
  have k_f63 := hts (.fieldLink RJx4a65c 63 "java/util/ArrayList" "modCount" "I") (by decide +kernel)
  have in_Jx4a65c : ∀ w ∈ u_ws RJx4a65c TJx4a65c 3, w ∈ wsJx4a65c_add_7a177 := by decide +kernel
  have k_f48 := hts (.fieldLink RJx4a65c 48 "java/util/ArrayList" "size" "I") (by decide +kernel)
  have k_f9 := hts (.fieldLink RJx4a65c 9 "java/util/ArrayList" "elementData" "[Ljava/lang/Object;") (by decide +kernel)
  have k_m112 := hts (.methodLink RJx4a65c 112 arraycopyName) (by decide +kernel)
  have k_acn := hts (.native arraycopyName) (by decide +kernel)
  have k_acs := hts (.static arraycopyName) (by decide +kernel)
  have k_aci := hts (.initialized "java/lang/System") (by decide +kernel)
  have hN := hZ.nn
  have hS : va_S A H0 H0 [] := va_S.rf
  refine lv_aload_n hx hb dJx4a65c_add_7a177_0 rfl (lv_at hl 0 rfl) ?_
  refine lv_iload_n hx hb dJx4a65c_add_7a177_1 rfl (lv_at hl 1 rfl) ?_
  refine x_runv (va_runV (As := [.int (nI i)]) (rest := []) hC (c_Jx4a65c_rangeCheckForAdd_d00df (A := A) (hP 1 _ rfl) (by omega) (by omega)) (cwV 1 hts gJx4a65c_add_7a177_Jx4a65c_rangeCheckForAdd_d00df rfl rfl rfl qdJx4a65c_rangeCheckForAdd_d00df ⟨Nat.le_of_ble_eq_true rfl, Nat.le_of_ble_eq_true rfl⟩) (x_preV hK (x_recv hK (hP 1 _ rfl) rfl)) rfl rfl hl.1 rfl (lv_room (Nat.le_of_ble_eq_true rfl)) dJx4a65c_add_7a177_2 ⟨Nat.le_of_ble_eq_true rfl, Nat.le_of_ble_eq_true rfl⟩) hS (fun _ h => h) (fun H locs hfr hΦ hS => ?_)
  rw [hΦ] at hS
  rw [hΦ]
  refine lv_aload_n hx hb dJx4a65c_add_7a177_5 rfl (lv_at hl 0 rfl) ?_
  refine lv_dup hx hb dJx4a65c_add_7a177_6 rfl ?_
  refine x_get (T := TJx4a65c) (N := 3) (v := .int mc) hx hb hts in_Jx4a65c hown hK (hP 1 _ rfl) rfl 0 (by decide) k_f63 (fun x9 h9 => u_same k_same x9 h9) (rfl) dJx4a65c_add_7a177_7 ?_
  refine lv_iconst (v := nI 1) hx hb dJx4a65c_add_7a177_10 (by decide +kernel) ?_
  refine lv_iadd hx hb dJx4a65c_add_7a177_11 ?_
  refine va_put (D := gD G) (ci := 5) (v := .int (mc + (nI 1))) (ty := .int) (C := RJx4a65c) (T := TJx4a65c) (N := 3) hx hb hts in_Jx4a65c tyJx4a65c tyJx4a65c_ok nmJx4a65c hown hK hP hD hS 1 rfl rfl 0 (by decide) k_f63 (fun x9 h9 => u_same k_same x9 h9) rfl (by decide +kernel) rfl rfl (Nat.le_of_ble_eq_true rfl) dJx4a65c_add_7a177_12 (fun H locs hP hD hS => ?_)
  have hP : va_P (gD G) vC [(ea, eQ G n g), (a, .inr (5, [.int (mc + (nI 1)), .ref ea, .int (nI n)]))] H := hP
  have hD : va_D A [(ea, eQ G n g), (a, .inr (5, [.int (mc + (nI 1)), .ref ea, .int (nI n)]))] := hD
  refine lv_aload_n hx hb dJx4a65c_add_7a177_15 rfl (lv_at hl 0 rfl) ?_
  refine x_get (T := TJx4a65c) (N := 3) (v := .int (nI n)) hx hb hts in_Jx4a65c hown hK (hP 1 _ rfl) rfl 2 (by decide) k_f48 (fun _ h9 => h9) (rfl) dJx4a65c_add_7a177_16 ?_
  refine lv_dup hx hb dJx4a65c_add_7a177_19 rfl ?_
  refine lv_istore_n (lv' := [(3, .int (nI n)), (0, .ref a), (1, .int (nI i)), (2, .ref v)]) hx hb dJx4a65c_add_7a177_20 rfl hl (by decide) rfl (fun ls hl => ?_)
  refine lv_aload_n hx hb dJx4a65c_add_7a177_21 rfl (lv_at hl 1 rfl) ?_
  refine x_get (T := TJx4a65c) (N := 3) (v := .ref ea) hx hb hts in_Jx4a65c hown hK (hP 1 _ rfl) rfl 1 (by decide) k_f9 (fun _ h9 => h9) (rfl) dJx4a65c_add_7a177_22 ?_
  refine lv_dup hx hb dJx4a65c_add_7a177_25 rfl ?_
  refine lv_astore (lv' := [(4, .ref ea), (3, .int (nI n)), (0, .ref a), (1, .int (nI i)), (2, .ref v)]) hx hb dJx4a65c_add_7a177_26 hl (by decide) rfl (fun ls hl => ?_)
  refine x_alen (t0 := 1) hx hb hK (hP 0 _ rfl) rfl dJx4a65c_add_7a177_28 ?_
  refine x_icmp_ne (tgt := 38) hx hb (by omega) (by omega) dJx4a65c_add_7a177_29 (by decide) (fun c_1 => ?_) (fun c_1 => ?_)
  · exact absurd rfl c_1
  · refine lv_aload_n hx hb dJx4a65c_add_7a177_32 rfl (lv_at hl 2 rfl) ?_
    refine x_runr (va_runV (As := []) (rest := []) hC (c_grow2B hP hD (fun q h9 => hA q (Nat.le_trans hS.1 h9)) hci (fun k y hk hy => (by obtain ⟨⟨fs, h1⟩, h2⟩ := hel k y hk hy; exact ⟨⟨fs, va_at.kept h1 (hS.2.1 _ h1.lt h2)⟩, h2⟩)) hn hne) (cwV 0 hts gJx4a65c_add_7a177_Jx4a65c_grow_d5877 rfl rfl rfl qdJx4a65c_grow_d5877 ⟨Nat.le_of_ble_eq_true rfl, Nat.le_of_ble_eq_true rfl⟩) (x_preVz hK (hZ.at hS) (x_recv hK (hP 1 _ rfl) rfl)) rfl rfl hl.1 rfl (lv_room (Nat.le_of_ble_eq_true rfl)) dJx4a65c_add_7a177_33 ⟨Nat.le_of_ble_eq_true rfl, Nat.le_of_ble_eq_true rfl⟩) hS (fun _ h => h) (fun r_2 H locs hfr hΦ hS => ?_)
    obtain ⟨cap1, g1, hcap, hP, hD, hg1⟩ := hΦ
    refine lv_astore (lv' := [(4, .ref r_2), (3, .int (nI n)), (0, .ref a), (1, .int (nI i)), (2, .ref v)]) hx hb dJx4a65c_add_7a177_36 hl (by decide) rfl (fun ls hl => ?_)
    have hcA := hcap.1; have hcB : cap1 ≤ 22 := by have q := hcap.2; unfold capOK at q; omega
    refine lv_aload hx hb dJx4a65c_add_7a177_38 (lv_at hl 0 rfl) ?_
    refine lv_iload_n hx hb dJx4a65c_add_7a177_40 rfl (lv_at hl 3 rfl) ?_
    refine lv_aload hx hb dJx4a65c_add_7a177_41 (lv_at hl 0 rfl) ?_
    refine lv_iload_n hx hb dJx4a65c_add_7a177_43 rfl (lv_at hl 3 rfl) ?_
    refine lv_iconst (v := nI 1) hx hb dJx4a65c_add_7a177_44 (by decide +kernel) ?_
    refine x_iaddN hx hb dJx4a65c_add_7a177_45 ?_
    refine lv_iload_n hx hb dJx4a65c_add_7a177_46 rfl (lv_at hl 1 rfl) ?_
    refine lv_iload_n hx hb dJx4a65c_add_7a177_47 rfl (lv_at hl 3 rfl) ?_
    refine x_isubN hx hb dJx4a65c_add_7a177_48 (by omega) ?_
    obtain ⟨q8, hq8, hca⟩ := hZ.cas hci
    refine x_copyQ hx hb (hml.trans hl.1.symm) hown k_m112 k_acn k_acs k_aci hK hP hD hS 1 1 rfl rfl (by omega) (by omega) (by omega) (by omega) (by omega) hq8 hca (fun k hk y hy => (by obtain ⟨⟨fs, h1⟩, h2⟩ := hel (i + k) y (by omega) ((hg1 (i + k) (by omega)).symm.trans hy); exact ⟨fs, va_at.kept h1 (hS.2.1 _ h1.lt h2)⟩)) (Nat.le_of_ble_eq_true rfl) (Nat.le_of_ble_eq_true (by decide +kernel)) dJx4a65c_add_7a177_49 (fun H locs hP hD hS => ?_)
    have hP : va_P (gD G) vC [(a, .inr (5, [.int (mc + (nI 1)), .ref r_2, .int (nI n)])), (r_2, eQ G cap1 (va_cpy g1 g1 i (i + 1) (n - i)))] H := hP
    have hD : va_D A [(a, .inr (5, [.int (mc + (nI 1)), .ref r_2, .int (nI n)])), (r_2, eQ G cap1 (va_cpy g1 g1 i (i + 1) (n - i)))] := hD
    refine lv_aload hx hb dJx4a65c_add_7a177_52 (lv_at hl 0 rfl) ?_
    refine lv_iload_n hx hb dJx4a65c_add_7a177_54 rfl (lv_at hl 3 rfl) ?_
    refine lv_aload_n hx hb dJx4a65c_add_7a177_55 rfl (lv_at hl 4 rfl) ?_
    obtain ⟨q8, hq8, hca⟩ := hZ.cas hci
    refine x_aast hx hb hK hP hD hS 1 rfl (x_any hK (va_at.kept hv (hS.2.1 _ hv.lt hvA)) hq8 hca) (by omega) (by omega) dJx4a65c_add_7a177_56 (fun H locs hP hD hS => ?_)
    have hP : va_P (gD G) vC [(a, .inr (5, [.int (mc + (nI 1)), .ref r_2, .int (nI n)])), (r_2, eQ G cap1 (va_up (va_cpy g1 g1 i (i + 1) (n - i)) i (some v)))] H := hP
    have hD : va_D A [(a, .inr (5, [.int (mc + (nI 1)), .ref r_2, .int (nI n)])), (r_2, eQ G cap1 (va_up (va_cpy g1 g1 i (i + 1) (n - i)) i (some v)))] := hD
    refine lv_aload_n hx hb dJx4a65c_add_7a177_57 rfl (lv_at hl 2 rfl) ?_
    refine lv_iload_n hx hb dJx4a65c_add_7a177_58 rfl (lv_at hl 1 rfl) ?_
    refine lv_iconst (v := nI 1) hx hb dJx4a65c_add_7a177_59 (by decide +kernel) ?_
    refine x_iaddN hx hb dJx4a65c_add_7a177_60 ?_
    refine va_put (D := gD G) (ci := 5) (v := .int (nI (n + 1))) (ty := .int) (C := RJx4a65c) (T := TJx4a65c) (N := 3) hx hb hts in_Jx4a65c tyJx4a65c tyJx4a65c_ok nmJx4a65c hown hK hP hD hS 0 rfl rfl 2 (by decide) k_f48 (fun _ h9 => h9) rfl (by decide +kernel) rfl rfl (Nat.le_of_ble_eq_true rfl) dJx4a65c_add_7a177_61 (fun H locs hP hD hS => ?_)
    have hP : va_P (gD G) vC [(a, .inr (5, [.int (mc + (nI 1)), .ref r_2, .int (nI (n + 1))])), (r_2, eQ G cap1 (va_up (va_cpy g1 g1 i (i + 1) (n - i)) i (some v)))] H := hP
    have hD : va_D A [(a, .inr (5, [.int (mc + (nI 1)), .ref r_2, .int (nI (n + 1))])), (r_2, eQ G cap1 (va_up (va_cpy g1 g1 i (i + 1) (n - i)) i (some v)))] := hD
    exact x_vret hQ hx hb hr hlk hS.2.2 dJx4a65c_add_7a177_64 ⟨hS.fr, _, _, _, ⟨by omega, hcap.2⟩, hP, hD, ins_eq (by omega) hg1⟩
set_option maxHeartbeats 4000000 in
set_option maxRecDepth 100000 in
theorem c_addIR {l : Launch} {G : gT} {A : Nat → Prop} {H0 : Heap} {zA : Nat × Nat} {a ea n cap : Nat} {mc : Int32} {g : Nat → Option Nat} (hP : va_P (gD G) vC [(a, alO mc ea n), (ea, eQ G cap g)] H0) (hD : va_D A [(a, alO mc ea n), (ea, eQ G cap g)]) (hA : ∀ q, H0.size ≤ q → A q) {ci : Nat} (hci : ci = 0 ∨ ci = 2) (hnc : n < cap) (hcap : capOK cap) (hel : ∀ k y, k < n → g k = some y → (∃ fs, pt G y (.inr (ci, fs)) H0) ∧ ¬ A y) {v : Nat} {fs : List Value} (hv : pt G v (.inr (ci, fs)) H0) (hvA : ¬ A v) {i : Nat} (hin : i ≤ n) : WzV G zA l yJx4a65c_add_7a177 wsJx4a65c_add_7a177 rmJx4a65c_add_7a177 [.ref a, .int (nI i), .ref v] H0 A 1 22 (fun H1 => ∃ (e1 cap1 : Nat) (g1 : Nat → Option Nat), (n + 1 ≤ cap1 ∧ capOK cap1) ∧ va_P (gD G) vC [(a, alO (mc + nI 1) e1 (n + 1)), (e1, eQ G cap1 g1)] H1 ∧ va_D A [(a, alO (mc + nI 1) e1 (n + 1)), (e1, eQ G cap1 g1)] ∧ ∀ k, k < n + 1 → g1 k = insF g i v k) := by
  refine x_headz (bytes := cJx4a65c_add_7a177) (maxL := 5) (ret := none) (by decide) rfl (Nat.le_of_ble_eq_true rfl) ?_
  intro p e s m below meth c ls hx hb hml hown hts hr hlk hnm hK hs0 hl Q hQ hZ
  have hl : lv_has ls 5 [(0, .ref a), (1, .int (nI i)), (2, .ref v)] := hl
  have hC : CallFix p m c cJx4a65c_add_7a177 5 s [.ref a, .int (nI i), .ref v].toArray wsJx4a65c_add_7a177 RJx4a65c := ⟨hx, hb, hml, hown, hts⟩
  have k_same := hts (.sameField "java/util/ArrayList" "java/util/AbstractList" "modCount" "I") (by decide +kernel)
  have k_f63 := hts (.fieldLink RJx4a65c 63 "java/util/ArrayList" "modCount" "I") (by decide +kernel)
  have in_Jx4a65c : ∀ w ∈ u_ws RJx4a65c TJx4a65c 3, w ∈ wsJx4a65c_add_7a177 := by decide +kernel
  have k_f48 := hts (.fieldLink RJx4a65c 48 "java/util/ArrayList" "size" "I") (by decide +kernel)
  have k_f9 := hts (.fieldLink RJx4a65c 9 "java/util/ArrayList" "elementData" "[Ljava/lang/Object;") (by decide +kernel)
  have k_m112 := hts (.methodLink RJx4a65c 112 arraycopyName) (by decide +kernel)
  have k_acn := hts (.native arraycopyName) (by decide +kernel)
  have k_acs := hts (.static arraycopyName) (by decide +kernel)
  have k_aci := hts (.initialized "java/lang/System") (by decide +kernel)
  have hN := hZ.nn
  have hS : va_S A H0 H0 [] := va_S.rf
  have hcap22 : cap ≤ 22 := by unfold capOK at hcap; omega
  refine lv_aload_n hx hb dJx4a65c_add_7a177_0 rfl (lv_at hl 0 rfl) ?_
  refine lv_iload_n hx hb dJx4a65c_add_7a177_1 rfl (lv_at hl 1 rfl) ?_
  refine x_runv (va_runV (As := [.int (nI i)]) (rest := []) hC (c_Jx4a65c_rangeCheckForAdd_d00df (A := A) (hP 0 _ rfl) (by omega) (by omega)) (cwV 1 hts gJx4a65c_add_7a177_Jx4a65c_rangeCheckForAdd_d00df rfl rfl rfl qdJx4a65c_rangeCheckForAdd_d00df ⟨Nat.le_of_ble_eq_true rfl, Nat.le_of_ble_eq_true rfl⟩) (x_preV hK (x_recv hK (hP 0 _ rfl) rfl)) rfl rfl hl.1 rfl (lv_room (Nat.le_of_ble_eq_true rfl)) dJx4a65c_add_7a177_2 ⟨Nat.le_of_ble_eq_true rfl, Nat.le_of_ble_eq_true rfl⟩) hS (fun _ h => h) (fun H locs hfr hΦ hS => ?_)
  rw [hΦ] at hS
  rw [hΦ]
  refine lv_aload_n hx hb dJx4a65c_add_7a177_5 rfl (lv_at hl 0 rfl) ?_
  refine lv_dup hx hb dJx4a65c_add_7a177_6 rfl ?_
  refine x_get (T := TJx4a65c) (N := 3) (v := .int mc) hx hb hts in_Jx4a65c hown hK (hP 0 _ rfl) rfl 0 (by decide) k_f63 (fun x9 h9 => u_same k_same x9 h9) (rfl) dJx4a65c_add_7a177_7 ?_
  refine lv_iconst (v := nI 1) hx hb dJx4a65c_add_7a177_10 (by decide +kernel) ?_
  refine lv_iadd hx hb dJx4a65c_add_7a177_11 ?_
  refine va_put (D := gD G) (ci := 5) (v := .int (mc + (nI 1))) (ty := .int) (C := RJx4a65c) (T := TJx4a65c) (N := 3) hx hb hts in_Jx4a65c tyJx4a65c tyJx4a65c_ok nmJx4a65c hown hK hP hD hS 0 rfl rfl 0 (by decide) k_f63 (fun x9 h9 => u_same k_same x9 h9) rfl (by decide +kernel) rfl rfl (Nat.le_of_ble_eq_true rfl) dJx4a65c_add_7a177_12 (fun H locs hP hD hS => ?_)
  have hP : va_P (gD G) vC [(a, .inr (5, [.int (mc + (nI 1)), .ref ea, .int (nI n)])), (ea, eQ G cap g)] H := hP
  have hD : va_D A [(a, .inr (5, [.int (mc + (nI 1)), .ref ea, .int (nI n)])), (ea, eQ G cap g)] := hD
  refine lv_aload_n hx hb dJx4a65c_add_7a177_15 rfl (lv_at hl 0 rfl) ?_
  refine x_get (T := TJx4a65c) (N := 3) (v := .int (nI n)) hx hb hts in_Jx4a65c hown hK (hP 0 _ rfl) rfl 2 (by decide) k_f48 (fun _ h9 => h9) (rfl) dJx4a65c_add_7a177_16 ?_
  refine lv_dup hx hb dJx4a65c_add_7a177_19 rfl ?_
  refine lv_istore_n (lv' := [(3, .int (nI n)), (0, .ref a), (1, .int (nI i)), (2, .ref v)]) hx hb dJx4a65c_add_7a177_20 rfl hl (by decide) rfl (fun ls hl => ?_)
  refine lv_aload_n hx hb dJx4a65c_add_7a177_21 rfl (lv_at hl 1 rfl) ?_
  refine x_get (T := TJx4a65c) (N := 3) (v := .ref ea) hx hb hts in_Jx4a65c hown hK (hP 0 _ rfl) rfl 1 (by decide) k_f9 (fun _ h9 => h9) (rfl) dJx4a65c_add_7a177_22 ?_
  refine lv_dup hx hb dJx4a65c_add_7a177_25 rfl ?_
  refine lv_astore (lv' := [(4, .ref ea), (3, .int (nI n)), (0, .ref a), (1, .int (nI i)), (2, .ref v)]) hx hb dJx4a65c_add_7a177_26 hl (by decide) rfl (fun ls hl => ?_)
  refine x_alen (t0 := 1) hx hb hK (hP 1 _ rfl) rfl dJx4a65c_add_7a177_28 ?_
  refine x_icmp_ne (tgt := 38) hx hb (by omega) (by omega) dJx4a65c_add_7a177_29 (by decide) (fun c_1 => ?_) (fun c_1 => ?_)
  · refine lv_aload hx hb dJx4a65c_add_7a177_38 (lv_at hl 0 rfl) ?_
    refine lv_iload_n hx hb dJx4a65c_add_7a177_40 rfl (lv_at hl 3 rfl) ?_
    refine lv_aload hx hb dJx4a65c_add_7a177_41 (lv_at hl 0 rfl) ?_
    refine lv_iload_n hx hb dJx4a65c_add_7a177_43 rfl (lv_at hl 3 rfl) ?_
    refine lv_iconst (v := nI 1) hx hb dJx4a65c_add_7a177_44 (by decide +kernel) ?_
    refine x_iaddN hx hb dJx4a65c_add_7a177_45 ?_
    refine lv_iload_n hx hb dJx4a65c_add_7a177_46 rfl (lv_at hl 1 rfl) ?_
    refine lv_iload_n hx hb dJx4a65c_add_7a177_47 rfl (lv_at hl 3 rfl) ?_
    refine x_isubN hx hb dJx4a65c_add_7a177_48 (by omega) ?_
    obtain ⟨q8, hq8, hca⟩ := hZ.cas hci
    refine x_copyQ hx hb (hml.trans hl.1.symm) hown k_m112 k_acn k_acs k_aci hK hP hD hS 1 1 rfl rfl (by omega) (by omega) (by omega) (by omega) (by omega) hq8 hca (fun k hk y hy => (by obtain ⟨⟨fs, h1⟩, h2⟩ := hel (i + k) y (by omega) hy; exact ⟨fs, va_at.kept h1 (hS.2.1 _ h1.lt h2)⟩)) (Nat.le_of_ble_eq_true rfl) (Nat.le_of_ble_eq_true (by decide +kernel)) dJx4a65c_add_7a177_49 (fun H locs hP hD hS => ?_)
    have hP : va_P (gD G) vC [(a, .inr (5, [.int (mc + (nI 1)), .ref ea, .int (nI n)])), (ea, eQ G cap (va_cpy g g i (i + 1) (n - i)))] H := hP
    have hD : va_D A [(a, .inr (5, [.int (mc + (nI 1)), .ref ea, .int (nI n)])), (ea, eQ G cap (va_cpy g g i (i + 1) (n - i)))] := hD
    refine lv_aload hx hb dJx4a65c_add_7a177_52 (lv_at hl 0 rfl) ?_
    refine lv_iload_n hx hb dJx4a65c_add_7a177_54 rfl (lv_at hl 3 rfl) ?_
    refine lv_aload_n hx hb dJx4a65c_add_7a177_55 rfl (lv_at hl 4 rfl) ?_
    obtain ⟨q8, hq8, hca⟩ := hZ.cas hci
    refine x_aast hx hb hK hP hD hS 1 rfl (x_any hK (va_at.kept hv (hS.2.1 _ hv.lt hvA)) hq8 hca) (by omega) (by omega) dJx4a65c_add_7a177_56 (fun H locs hP hD hS => ?_)
    have hP : va_P (gD G) vC [(a, .inr (5, [.int (mc + (nI 1)), .ref ea, .int (nI n)])), (ea, eQ G cap (va_up (va_cpy g g i (i + 1) (n - i)) i (some v)))] H := hP
    have hD : va_D A [(a, .inr (5, [.int (mc + (nI 1)), .ref ea, .int (nI n)])), (ea, eQ G cap (va_up (va_cpy g g i (i + 1) (n - i)) i (some v)))] := hD
    refine lv_aload_n hx hb dJx4a65c_add_7a177_57 rfl (lv_at hl 2 rfl) ?_
    refine lv_iload_n hx hb dJx4a65c_add_7a177_58 rfl (lv_at hl 1 rfl) ?_
    refine lv_iconst (v := nI 1) hx hb dJx4a65c_add_7a177_59 (by decide +kernel) ?_
    refine x_iaddN hx hb dJx4a65c_add_7a177_60 ?_
    refine va_put (D := gD G) (ci := 5) (v := .int (nI (n + 1))) (ty := .int) (C := RJx4a65c) (T := TJx4a65c) (N := 3) hx hb hts in_Jx4a65c tyJx4a65c tyJx4a65c_ok nmJx4a65c hown hK hP hD hS 0 rfl rfl 2 (by decide) k_f48 (fun _ h9 => h9) rfl (by decide +kernel) rfl rfl (Nat.le_of_ble_eq_true rfl) dJx4a65c_add_7a177_61 (fun H locs hP hD hS => ?_)
    have hP : va_P (gD G) vC [(a, .inr (5, [.int (mc + (nI 1)), .ref ea, .int (nI (n + 1))])), (ea, eQ G cap (va_up (va_cpy g g i (i + 1) (n - i)) i (some v)))] H := hP
    have hD : va_D A [(a, .inr (5, [.int (mc + (nI 1)), .ref ea, .int (nI (n + 1))])), (ea, eQ G cap (va_up (va_cpy g g i (i + 1) (n - i)) i (some v)))] := hD
    refine W.widen (k := 1) (n := 22) (Nat.zero_le _) (Nat.zero_le _) ?_
    exact x_vret hQ hx hb hr hlk hS.2.2 dJx4a65c_add_7a177_64 ⟨hS.fr, _, _, _, ⟨by omega, hcap⟩, hP, hD, ins_eq (by omega) (fun k _ => rfl)⟩
  · exact absurd c_1 (by omega)
set_option maxHeartbeats 4000000 in
set_option maxRecDepth 100000 in
theorem c_addIA {l : Launch} {G : gT} {A : Nat → Prop} {H0 : Heap} {zA : Nat × Nat} {a : Nat} {mc : Int32} (hP : va_P (gD G) vC [(a, alO mc zA.1 0)] H0) (hD : va_D A [(a, alO mc zA.1 0)]) (hA : ∀ q, H0.size ≤ q → A q) {ci : Nat} (hci : ci = 0 ∨ ci = 2) {v : Nat} {fs : List Value} (hv : pt G v (.inr (ci, fs)) H0) (hvA : ¬ A v) {i : Nat} (hin : i ≤ 0) : WzV G zA l yJx4a65c_add_7a177 wsJx4a65c_add_7a177 rmJx4a65c_add_7a177 [.ref a, .int (nI i), .ref v] H0 A 1 22 (fun H1 => ∃ (e1 cap1 : Nat) (g1 : Nat → Option Nat), (0 + 1 ≤ cap1 ∧ capOK cap1) ∧ va_P (gD G) vC [(a, alO (mc + nI 1) e1 (0 + 1)), (e1, eQ G cap1 g1)] H1 ∧ va_D A [(a, alO (mc + nI 1) e1 (0 + 1)), (e1, eQ G cap1 g1)] ∧ ∀ k, k < 0 + 1 → g1 k = insF (fun _ => none) i v k) := by
  refine x_headz (bytes := cJx4a65c_add_7a177) (maxL := 5) (ret := none) (by decide) rfl (Nat.le_of_ble_eq_true rfl) ?_
  intro p e s m below meth c ls hx hb hml hown hts hr hlk hnm hK hs0 hl Q hQ hZ
  have hl : lv_has ls 5 [(0, .ref a), (1, .int (nI i)), (2, .ref v)] := hl
  have hC : CallFix p m c cJx4a65c_add_7a177 5 s [.ref a, .int (nI i), .ref v].toArray wsJx4a65c_add_7a177 RJx4a65c := ⟨hx, hb, hml, hown, hts⟩
  have k_same := hts (.sameField "java/util/ArrayList" "java/util/AbstractList" "modCount" "I") (by decide +kernel)
  have k_f63 := hts (.fieldLink RJx4a65c 63 "java/util/ArrayList" "modCount" "I") (by decide +kernel)
  have in_Jx4a65c : ∀ w ∈ u_ws RJx4a65c TJx4a65c 3, w ∈ wsJx4a65c_add_7a177 := by decide +kernel
  have k_f48 := hts (.fieldLink RJx4a65c 48 "java/util/ArrayList" "size" "I") (by decide +kernel)
  have k_f9 := hts (.fieldLink RJx4a65c 9 "java/util/ArrayList" "elementData" "[Ljava/lang/Object;") (by decide +kernel)
  have k_m112 := hts (.methodLink RJx4a65c 112 arraycopyName) (by decide +kernel)
  have k_acn := hts (.native arraycopyName) (by decide +kernel)
  have k_acs := hts (.static arraycopyName) (by decide +kernel)
  have k_aci := hts (.initialized "java/lang/System") (by decide +kernel)
  have hN := hZ.nn
  have hS : va_S A H0 H0 [] := va_S.rf
  refine lv_aload_n hx hb dJx4a65c_add_7a177_0 rfl (lv_at hl 0 rfl) ?_
  refine lv_iload_n hx hb dJx4a65c_add_7a177_1 rfl (lv_at hl 1 rfl) ?_
  refine x_runv (va_runV (As := [.int (nI i)]) (rest := []) hC (c_Jx4a65c_rangeCheckForAdd_d00df (A := A) (hP 0 _ rfl) (by omega) (by omega)) (cwV 1 hts gJx4a65c_add_7a177_Jx4a65c_rangeCheckForAdd_d00df rfl rfl rfl qdJx4a65c_rangeCheckForAdd_d00df ⟨Nat.le_of_ble_eq_true rfl, Nat.le_of_ble_eq_true rfl⟩) (x_preV hK (x_recv hK (hP 0 _ rfl) rfl)) rfl rfl hl.1 rfl (lv_room (Nat.le_of_ble_eq_true rfl)) dJx4a65c_add_7a177_2 ⟨Nat.le_of_ble_eq_true rfl, Nat.le_of_ble_eq_true rfl⟩) hS (fun _ h => h) (fun H locs hfr hΦ hS => ?_)
  rw [hΦ] at hS
  rw [hΦ]
  refine lv_aload_n hx hb dJx4a65c_add_7a177_5 rfl (lv_at hl 0 rfl) ?_
  refine lv_dup hx hb dJx4a65c_add_7a177_6 rfl ?_
  refine x_get (T := TJx4a65c) (N := 3) (v := .int mc) hx hb hts in_Jx4a65c hown hK (hP 0 _ rfl) rfl 0 (by decide) k_f63 (fun x9 h9 => u_same k_same x9 h9) (rfl) dJx4a65c_add_7a177_7 ?_
  refine lv_iconst (v := nI 1) hx hb dJx4a65c_add_7a177_10 (by decide +kernel) ?_
  refine lv_iadd hx hb dJx4a65c_add_7a177_11 ?_
  refine va_put (D := gD G) (ci := 5) (v := .int (mc + (nI 1))) (ty := .int) (C := RJx4a65c) (T := TJx4a65c) (N := 3) hx hb hts in_Jx4a65c tyJx4a65c tyJx4a65c_ok nmJx4a65c hown hK hP hD hS 0 rfl rfl 0 (by decide) k_f63 (fun x9 h9 => u_same k_same x9 h9) rfl (by decide +kernel) rfl rfl (Nat.le_of_ble_eq_true rfl) dJx4a65c_add_7a177_12 (fun H locs hP hD hS => ?_)
  have hP : va_P (gD G) vC [(a, .inr (5, [.int (mc + (nI 1)), .ref zA.1, .int (nI 0)]))] H := hP
  have hD : va_D A [(a, .inr (5, [.int (mc + (nI 1)), .ref zA.1, .int (nI 0)]))] := hD
  refine lv_aload_n hx hb dJx4a65c_add_7a177_15 rfl (lv_at hl 0 rfl) ?_
  refine x_get (T := TJx4a65c) (N := 3) (v := .int (nI 0)) hx hb hts in_Jx4a65c hown hK (hP 0 _ rfl) rfl 2 (by decide) k_f48 (fun _ h9 => h9) (rfl) dJx4a65c_add_7a177_16 ?_
  refine lv_dup hx hb dJx4a65c_add_7a177_19 rfl ?_
  refine lv_istore_n (lv' := [(3, .int (nI 0)), (0, .ref a), (1, .int (nI i)), (2, .ref v)]) hx hb dJx4a65c_add_7a177_20 rfl hl (by decide) rfl (fun ls hl => ?_)
  refine lv_aload_n hx hb dJx4a65c_add_7a177_21 rfl (lv_at hl 1 rfl) ?_
  refine x_get (T := TJx4a65c) (N := 3) (v := .ref zA.1) hx hb hts in_Jx4a65c hown hK (hP 0 _ rfl) rfl 1 (by decide) k_f9 (fun _ h9 => h9) (rfl) dJx4a65c_add_7a177_22 ?_
  refine lv_dup hx hb dJx4a65c_add_7a177_25 rfl ?_
  refine lv_astore (lv' := [(4, .ref zA.1), (3, .int (nI 0)), (0, .ref a), (1, .int (nI i)), (2, .ref v)]) hx hb dJx4a65c_add_7a177_26 hl (by decide) rfl (fun ls hl => ?_)
  refine x_tlen hx hb hs0 hZ hS dJx4a65c_add_7a177_28 ?_
  refine x_icmp_ne (tgt := 38) hx hb (by omega) (by omega) dJx4a65c_add_7a177_29 (by decide) (fun c_1 => ?_) (fun c_1 => ?_)
  · exact absurd rfl c_1
  · refine lv_aload_n hx hb dJx4a65c_add_7a177_32 rfl (lv_at hl 2 rfl) ?_
    refine x_runr (va_runV (As := []) (rest := []) hC (c_grow2A hP hD (fun q h9 => hA q (Nat.le_trans hS.1 h9)) ) (cwV 0 hts gJx4a65c_add_7a177_Jx4a65c_grow_d5877 rfl rfl rfl qdJx4a65c_grow_d5877 ⟨Nat.le_of_ble_eq_true rfl, Nat.le_of_ble_eq_true rfl⟩) (x_preVz hK (hZ.at hS) (x_recv hK (hP 0 _ rfl) rfl)) rfl rfl hl.1 rfl (lv_room (Nat.le_of_ble_eq_true rfl)) dJx4a65c_add_7a177_33 ⟨Nat.le_of_ble_eq_true rfl, Nat.le_of_ble_eq_true rfl⟩) hS (fun _ h => h) (fun r_2 H locs hfr hΦ hS => ?_)
    obtain ⟨cap1, g1, hcap, hP, hD, hg1⟩ := hΦ
    refine lv_astore (lv' := [(4, .ref r_2), (3, .int (nI 0)), (0, .ref a), (1, .int (nI i)), (2, .ref v)]) hx hb dJx4a65c_add_7a177_36 hl (by decide) rfl (fun ls hl => ?_)
    have hcA := hcap.1; have hcB : cap1 ≤ 22 := by have q := hcap.2; unfold capOK at q; omega
    refine lv_aload hx hb dJx4a65c_add_7a177_38 (lv_at hl 0 rfl) ?_
    refine lv_iload_n hx hb dJx4a65c_add_7a177_40 rfl (lv_at hl 3 rfl) ?_
    refine lv_aload hx hb dJx4a65c_add_7a177_41 (lv_at hl 0 rfl) ?_
    refine lv_iload_n hx hb dJx4a65c_add_7a177_43 rfl (lv_at hl 3 rfl) ?_
    refine lv_iconst (v := nI 1) hx hb dJx4a65c_add_7a177_44 (by decide +kernel) ?_
    refine x_iaddN hx hb dJx4a65c_add_7a177_45 ?_
    refine lv_iload_n hx hb dJx4a65c_add_7a177_46 rfl (lv_at hl 1 rfl) ?_
    refine lv_iload_n hx hb dJx4a65c_add_7a177_47 rfl (lv_at hl 3 rfl) ?_
    refine x_isubN hx hb dJx4a65c_add_7a177_48 (by omega) ?_
    obtain ⟨q8, hq8, hca⟩ := hZ.cas hci
    refine x_copyQ hx hb (hml.trans hl.1.symm) hown k_m112 k_acn k_acs k_aci hK hP hD hS 1 1 rfl rfl (by omega) (by omega) (by omega) (by omega) (by omega) hq8 hca (fun k hk => absurd hk (by omega)) (Nat.le_of_ble_eq_true rfl) (Nat.le_of_ble_eq_true (by decide +kernel)) dJx4a65c_add_7a177_49 (fun H locs hP hD hS => ?_)
    have hP : va_P (gD G) vC [(a, .inr (5, [.int (mc + (nI 1)), .ref r_2, .int (nI 0)])), (r_2, eQ G cap1 (va_cpy g1 g1 i (i + 1) (0 - i)))] H := hP
    have hD : va_D A [(a, .inr (5, [.int (mc + (nI 1)), .ref r_2, .int (nI 0)])), (r_2, eQ G cap1 (va_cpy g1 g1 i (i + 1) (0 - i)))] := hD
    refine lv_aload hx hb dJx4a65c_add_7a177_52 (lv_at hl 0 rfl) ?_
    refine lv_iload_n hx hb dJx4a65c_add_7a177_54 rfl (lv_at hl 3 rfl) ?_
    refine lv_aload_n hx hb dJx4a65c_add_7a177_55 rfl (lv_at hl 4 rfl) ?_
    obtain ⟨q8, hq8, hca⟩ := hZ.cas hci
    refine x_aast hx hb hK hP hD hS 1 rfl (x_any hK (va_at.kept hv (hS.2.1 _ hv.lt hvA)) hq8 hca) (by omega) (by omega) dJx4a65c_add_7a177_56 (fun H locs hP hD hS => ?_)
    have hP : va_P (gD G) vC [(a, .inr (5, [.int (mc + (nI 1)), .ref r_2, .int (nI 0)])), (r_2, eQ G cap1 (va_up (va_cpy g1 g1 i (i + 1) (0 - i)) i (some v)))] H := hP
    have hD : va_D A [(a, .inr (5, [.int (mc + (nI 1)), .ref r_2, .int (nI 0)])), (r_2, eQ G cap1 (va_up (va_cpy g1 g1 i (i + 1) (0 - i)) i (some v)))] := hD
    refine lv_aload_n hx hb dJx4a65c_add_7a177_57 rfl (lv_at hl 2 rfl) ?_
    refine lv_iload_n hx hb dJx4a65c_add_7a177_58 rfl (lv_at hl 1 rfl) ?_
    refine lv_iconst (v := nI 1) hx hb dJx4a65c_add_7a177_59 (by decide +kernel) ?_
    refine x_iaddN hx hb dJx4a65c_add_7a177_60 ?_
    refine va_put (D := gD G) (ci := 5) (v := .int (nI (0 + 1))) (ty := .int) (C := RJx4a65c) (T := TJx4a65c) (N := 3) hx hb hts in_Jx4a65c tyJx4a65c tyJx4a65c_ok nmJx4a65c hown hK hP hD hS 0 rfl rfl 2 (by decide) k_f48 (fun _ h9 => h9) rfl (by decide +kernel) rfl rfl (Nat.le_of_ble_eq_true rfl) dJx4a65c_add_7a177_61 (fun H locs hP hD hS => ?_)
    have hP : va_P (gD G) vC [(a, .inr (5, [.int (mc + (nI 1)), .ref r_2, .int (nI (0 + 1))])), (r_2, eQ G cap1 (va_up (va_cpy g1 g1 i (i + 1) (0 - i)) i (some v)))] H := hP
    have hD : va_D A [(a, .inr (5, [.int (mc + (nI 1)), .ref r_2, .int (nI (0 + 1))])), (r_2, eQ G cap1 (va_up (va_cpy g1 g1 i (i + 1) (0 - i)) i (some v)))] := hD
    exact x_vret hQ hx hb hr hlk hS.2.2 dJx4a65c_add_7a177_64 ⟨hS.fr, _, _, _, ⟨by omega, hcap.2⟩, hP, hD, ins_eq (by omega) (fun k hk => absurd hk (Nat.not_lt_zero _))⟩
