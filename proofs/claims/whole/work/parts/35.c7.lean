abbrev rmJx4a65c_grow_d5877 : Room := { frames := 4, cells := 1, slots := 22, locals := 97 }
theorem qdJx4a65c_grow_d5877 : yJx4a65c_grow_d5877.cls = RJx4a65c ∧ yJx4a65c_grow_d5877.cls ≠ "java/lang/invoke/MethodHandle" ∧ yJx4a65c_grow_d5877.cls ≠ "java/lang/invoke/VarHandle" ∧ (parseMethodDescriptor yJx4a65c_grow_d5877.desc).map (fun d => d.parameters.length) = some 0 := by decide +kernel
set_option maxHeartbeats 4000000 in
set_option maxRecDepth 100000 in
theorem c_grow2B {l : Launch} {G : gT} {A : Nat → Prop} {H0 : Heap} {zA : Nat × Nat} {a ea n : Nat} {mc : Int32} {g : Nat → Option Nat} (hP : va_P (gD G) vC [(ea, eQ G n g), (a, alO mc ea n)] H0) (hD : va_D A [(ea, eQ G n g), (a, alO mc ea n)]) (hA : ∀ q, H0.size ≤ q → A q) {ci : Nat} (hci : ci = 0 ∨ ci = 2) (hel : ∀ k y, k < n → g k = some y → (∃ fs, pt G y (.inr (ci, fs)) H0) ∧ ¬ A y) (hn : n = 10 ∨ n = 15) (hne : ¬ ea = zA.1) : WzA G zA l yJx4a65c_grow_d5877 wsJx4a65c_grow_d5877 rmJx4a65c_grow_d5877 [.ref a] H0 A 1 22 (fun r H1 => ∃ (cap1 : Nat) (g1 : Nat → Option Nat), (n < cap1 ∧ capOK cap1) ∧ va_P (gD G) vC [(a, alO mc r n), (r, eQ G cap1 g1)] H1 ∧ va_D A [(a, alO mc r n), (r, eQ G cap1 g1)] ∧ ∀ k, k < n → g1 k = g k) := by
  refine x_headz (bytes := cJx4a65c_grow_d5877) (maxL := 1) (ret := (some (.array (.object "java/lang/Object")))) (by decide) rfl (Nat.le_of_ble_eq_true rfl) ?_
  intro p e s m below meth c ls hx hb hml hown hts hr hlk hnm hK hs0 hl Q hQ hZ
  have hl : lv_has ls 1 [(0, .ref a)] := hl
  have hC : CallFix p m c cJx4a65c_grow_d5877 1 s [.ref a].toArray wsJx4a65c_grow_d5877 RJx4a65c := ⟨hx, hb, hml, hown, hts⟩
  have k_f48 := hts (.fieldLink RJx4a65c 48 "java/util/ArrayList" "size" "I") (by decide +kernel)
  have in_Jx4a65c : ∀ w ∈ u_ws RJx4a65c TJx4a65c 3, w ∈ wsJx4a65c_grow_d5877 := by decide +kernel
  have hN := hZ.nn
  have hS : va_S A H0 H0 [] := va_S.rf
  refine lv_aload_n hx hb dJx4a65c_grow_d5877_0 rfl (lv_at hl 0 rfl) ?_
  refine lv_aload_n hx hb dJx4a65c_grow_d5877_1 rfl (lv_at hl 0 rfl) ?_
  refine x_get (T := TJx4a65c) (N := 3) (v := .int (nI n)) hx hb hts in_Jx4a65c hown hK (hP 1 _ rfl) rfl 2 (by decide) k_f48 (fun _ h9 => h9) (rfl) dJx4a65c_grow_d5877_2 ?_
  refine lv_iconst (v := nI 1) hx hb dJx4a65c_grow_d5877_5 (by decide +kernel) ?_
  refine x_iaddN hx hb dJx4a65c_grow_d5877_6 ?_
  refine x_runr (va_runV (As := [.int (nI (n + 1))]) (rest := []) hC (c_growB hP hD (fun q h9 => hA q (Nat.le_trans hS.1 h9)) hci (fun k y hk hy => (by obtain ⟨⟨fs, h1⟩, h2⟩ := hel k y hk hy; exact ⟨⟨fs, va_at.kept h1 (hS.2.1 _ h1.lt h2)⟩, h2⟩)) hn hne) (cwV 1 hts gJx4a65c_grow_d5877_Jx4a65c_grow_92f84 rfl rfl rfl qdJx4a65c_grow_92f84 ⟨Nat.le_of_ble_eq_true rfl, Nat.le_of_ble_eq_true rfl⟩) (x_preVz hK (hZ.at hS) (x_recv hK (hP 1 _ rfl) rfl)) rfl rfl hl.1 rfl (lv_room (Nat.le_of_ble_eq_true rfl)) dJx4a65c_grow_d5877_7 ⟨Nat.le_of_ble_eq_true rfl, Nat.le_of_ble_eq_true rfl⟩) hS (fun _ h => h) (fun r_1 H locs hfr hΦ hS => ?_)
  obtain ⟨cap1, g1, hcap, hP, hD, hg1⟩ := hΦ
  exact x_aret hQ hx hb hr (Or.inr ⟨_, rfl⟩) hlk hS.2.2 dJx4a65c_grow_d5877_10 ⟨hS.fr, cap1, g1, hcap, hP, hD, hg1⟩
set_option maxHeartbeats 4000000 in
set_option maxRecDepth 100000 in
theorem c_grow2A {l : Launch} {G : gT} {A : Nat → Prop} {H0 : Heap} {zA : Nat × Nat} {a : Nat} {mc : Int32} (hP : va_P (gD G) vC [(a, alO mc zA.1 0)] H0) (hD : va_D A [(a, alO mc zA.1 0)]) (hA : ∀ q, H0.size ≤ q → A q) : WzA G zA l yJx4a65c_grow_d5877 wsJx4a65c_grow_d5877 rmJx4a65c_grow_d5877 [.ref a] H0 A 1 22 (fun r H1 => ∃ (cap1 : Nat) (g1 : Nat → Option Nat), (0 < cap1 ∧ capOK cap1) ∧ va_P (gD G) vC [(a, alO mc r 0), (r, eQ G cap1 g1)] H1 ∧ va_D A [(a, alO mc r 0), (r, eQ G cap1 g1)] ∧ ∀ k, k < 0 → g1 k = (fun _ => none) k) := by
  refine x_headz (bytes := cJx4a65c_grow_d5877) (maxL := 1) (ret := (some (.array (.object "java/lang/Object")))) (by decide) rfl (Nat.le_of_ble_eq_true rfl) ?_
  intro p e s m below meth c ls hx hb hml hown hts hr hlk hnm hK hs0 hl Q hQ hZ
  have hl : lv_has ls 1 [(0, .ref a)] := hl
  have hC : CallFix p m c cJx4a65c_grow_d5877 1 s [.ref a].toArray wsJx4a65c_grow_d5877 RJx4a65c := ⟨hx, hb, hml, hown, hts⟩
  have k_f48 := hts (.fieldLink RJx4a65c 48 "java/util/ArrayList" "size" "I") (by decide +kernel)
  have in_Jx4a65c : ∀ w ∈ u_ws RJx4a65c TJx4a65c 3, w ∈ wsJx4a65c_grow_d5877 := by decide +kernel
  have hN := hZ.nn
  have hS : va_S A H0 H0 [] := va_S.rf
  refine lv_aload_n hx hb dJx4a65c_grow_d5877_0 rfl (lv_at hl 0 rfl) ?_
  refine lv_aload_n hx hb dJx4a65c_grow_d5877_1 rfl (lv_at hl 0 rfl) ?_
  refine x_get (T := TJx4a65c) (N := 3) (v := .int (nI 0)) hx hb hts in_Jx4a65c hown hK (hP 0 _ rfl) rfl 2 (by decide) k_f48 (fun _ h9 => h9) (rfl) dJx4a65c_grow_d5877_2 ?_
  refine lv_iconst (v := nI 1) hx hb dJx4a65c_grow_d5877_5 (by decide +kernel) ?_
  refine x_iaddN hx hb dJx4a65c_grow_d5877_6 ?_
  refine x_runr (va_runV (As := [.int (nI (0 + 1))]) (rest := []) hC (c_growA hP hD (fun q h9 => hA q (Nat.le_trans hS.1 h9)) ) (cwV 1 hts gJx4a65c_grow_d5877_Jx4a65c_grow_92f84 rfl rfl rfl qdJx4a65c_grow_92f84 ⟨Nat.le_of_ble_eq_true rfl, Nat.le_of_ble_eq_true rfl⟩) (x_preVz hK (hZ.at hS) (x_recv hK (hP 0 _ rfl) rfl)) rfl rfl hl.1 rfl (lv_room (Nat.le_of_ble_eq_true rfl)) dJx4a65c_grow_d5877_7 ⟨Nat.le_of_ble_eq_true rfl, Nat.le_of_ble_eq_true rfl⟩) hS (fun _ h => h) (fun r_1 H locs hfr hΦ hS => ?_)
  obtain ⟨cap1, g1, hcap, hP, hD, hg1⟩ := hΦ
  exact x_aret hQ hx hb hr (Or.inr ⟨_, rfl⟩) hlk hS.2.2 dJx4a65c_grow_d5877_10 ⟨hS.fr, cap1, g1, hcap, hP, hD, hg1⟩
abbrev rmJx4a65c_add_72be8 : Room := { frames := 5, cells := 1, slots := 22, locals := 117 }
theorem qdJx4a65c_add_72be8 : yJx4a65c_add_72be8.cls = RJx4a65c ∧ yJx4a65c_add_72be8.cls ≠ "java/lang/invoke/MethodHandle" ∧ yJx4a65c_add_72be8.cls ≠ "java/lang/invoke/VarHandle" ∧ (parseMethodDescriptor yJx4a65c_add_72be8.desc).map (fun d => d.parameters.length) = some 3 := by decide +kernel
set_option maxHeartbeats 4000000 in
set_option maxRecDepth 100000 in
theorem c_add3B {l : Launch} {G : gT} {A : Nat → Prop} {H0 : Heap} {zA : Nat × Nat} {a ea n : Nat} {mc : Int32} {g : Nat → Option Nat} (hP : va_P (gD G) vC [(ea, eQ G n g), (a, alO mc ea n)] H0) (hD : va_D A [(ea, eQ G n g), (a, alO mc ea n)]) (hA : ∀ q, H0.size ≤ q → A q) {ci : Nat} (hci : ci = 0 ∨ ci = 2) (hel : ∀ k y, k < n → g k = some y → (∃ fs, pt G y (.inr (ci, fs)) H0) ∧ ¬ A y) (hn : n = 10 ∨ n = 15) (hne : ¬ ea = zA.1) {v : Nat} {fs : List Value} (hv : pt G v (.inr (ci, fs)) H0) (hvA : ¬ A v) : WzV G zA l yJx4a65c_add_72be8 wsJx4a65c_add_72be8 rmJx4a65c_add_72be8 [.ref a, .ref v, .ref ea, .int (nI n)] H0 A 1 22 (fun H1 => ∃ (e1 cap1 : Nat) (g1 : Nat → Option Nat), (n + 1 ≤ cap1 ∧ capOK cap1) ∧ va_P (gD G) vC [(a, alO mc e1 (n + 1)), (e1, eQ G cap1 g1)] H1 ∧ va_D A [(a, alO mc e1 (n + 1)), (e1, eQ G cap1 g1)] ∧ (∀ k, k < n → g1 k = g k) ∧ g1 n = some v) := by
  refine x_headz (bytes := cJx4a65c_add_72be8) (maxL := 4) (ret := none) (by decide) rfl (Nat.le_of_ble_eq_true rfl) ?_
  intro p e s m below meth c ls hx hb hml hown hts hr hlk hnm hK hs0 hl Q hQ hZ
  have hl : lv_has ls 4 [(0, .ref a), (1, .ref v), (2, .ref ea), (3, .int (nI n))] := hl
  have hC : CallFix p m c cJx4a65c_add_72be8 4 s [.ref a, .ref v, .ref ea, .int (nI n)].toArray wsJx4a65c_add_72be8 RJx4a65c := ⟨hx, hb, hml, hown, hts⟩
  have k_f48 := hts (.fieldLink RJx4a65c 48 "java/util/ArrayList" "size" "I") (by decide +kernel)
  have in_Jx4a65c : ∀ w ∈ u_ws RJx4a65c TJx4a65c 3, w ∈ wsJx4a65c_add_72be8 := by decide +kernel
  have hN := hZ.nn
  have hS : va_S A H0 H0 [] := va_S.rf
  refine lv_iload_n hx hb dJx4a65c_add_72be8_0 rfl (lv_at hl 3 rfl) ?_
  refine lv_aload_n hx hb dJx4a65c_add_72be8_1 rfl (lv_at hl 2 rfl) ?_
  refine x_alen (t0 := 1) hx hb hK (hP 0 _ rfl) rfl dJx4a65c_add_72be8_2 ?_
  refine x_icmp_ne (tgt := 11) hx hb (by omega) (by omega) dJx4a65c_add_72be8_3 (by decide) (fun c_1 => ?_) (fun c_1 => ?_)
  · exact absurd rfl c_1
  · refine lv_aload_n hx hb dJx4a65c_add_72be8_6 rfl (lv_at hl 0 rfl) ?_
    refine x_runr (va_runV (As := []) (rest := []) hC (c_grow2B hP hD (fun q h9 => hA q (Nat.le_trans hS.1 h9)) hci (fun k y hk hy => (by obtain ⟨⟨fs, h1⟩, h2⟩ := hel k y hk hy; exact ⟨⟨fs, va_at.kept h1 (hS.2.1 _ h1.lt h2)⟩, h2⟩)) hn hne) (cwV 0 hts gJx4a65c_add_72be8_Jx4a65c_grow_d5877 rfl rfl rfl qdJx4a65c_grow_d5877 ⟨Nat.le_of_ble_eq_true rfl, Nat.le_of_ble_eq_true rfl⟩) (x_preVz hK (hZ.at hS) (x_recv hK (hP 1 _ rfl) rfl)) rfl rfl hl.1 rfl (lv_room (Nat.le_of_ble_eq_true rfl)) dJx4a65c_add_72be8_7 ⟨Nat.le_of_ble_eq_true rfl, Nat.le_of_ble_eq_true rfl⟩) hS (fun _ h => h) (fun r_2 H locs hfr hΦ hS => ?_)
    obtain ⟨cap1, g1, hcap, hP, hD, hg1⟩ := hΦ
    refine lv_astore_n (lv' := [(2, .ref r_2), (0, .ref a), (1, .ref v), (3, .int (nI n))]) hx hb dJx4a65c_add_72be8_10 rfl hl (by decide) rfl (fun ls hl => ?_)
    have hcA := hcap.1; have hcB : cap1 ≤ 22 := by have q := hcap.2; unfold capOK at q; omega
    refine lv_aload_n hx hb dJx4a65c_add_72be8_11 rfl (lv_at hl 0 rfl) ?_
    refine lv_iload_n hx hb dJx4a65c_add_72be8_12 rfl (lv_at hl 3 rfl) ?_
    refine lv_aload_n hx hb dJx4a65c_add_72be8_13 rfl (lv_at hl 2 rfl) ?_
    obtain ⟨q8, hq8, hca⟩ := hZ.cas hci
    refine x_aast hx hb hK hP hD hS 1 rfl (x_any hK (va_at.kept hv (hS.2.1 _ hv.lt hvA)) hq8 hca) (by omega) (by omega) dJx4a65c_add_72be8_14 (fun H locs hP hD hS => ?_)
    have hP : va_P (gD G) vC [(a, .inr (5, [.int mc, .ref r_2, .int (nI n)])), (r_2, eQ G cap1 (va_up g1 n (some v)))] H := hP
    have hD : va_D A [(a, .inr (5, [.int mc, .ref r_2, .int (nI n)])), (r_2, eQ G cap1 (va_up g1 n (some v)))] := hD
    refine lv_aload_n hx hb dJx4a65c_add_72be8_15 rfl (lv_at hl 1 rfl) ?_
    refine lv_iload_n hx hb dJx4a65c_add_72be8_16 rfl (lv_at hl 3 rfl) ?_
    refine lv_iconst (v := nI 1) hx hb dJx4a65c_add_72be8_17 (by decide +kernel) ?_
    refine x_iaddN hx hb dJx4a65c_add_72be8_18 ?_
    refine va_put (D := gD G) (ci := 5) (v := .int (nI (n + 1))) (ty := .int) (C := RJx4a65c) (T := TJx4a65c) (N := 3) hx hb hts in_Jx4a65c tyJx4a65c tyJx4a65c_ok nmJx4a65c hown hK hP hD hS 0 rfl rfl 2 (by decide) k_f48 (fun _ h9 => h9) rfl (by decide +kernel) rfl rfl (Nat.le_of_ble_eq_true rfl) dJx4a65c_add_72be8_19 (fun H locs hP hD hS => ?_)
    have hP : va_P (gD G) vC [(a, .inr (5, [.int mc, .ref r_2, .int (nI (n + 1))])), (r_2, eQ G cap1 (va_up g1 n (some v)))] H := hP
    have hD : va_D A [(a, .inr (5, [.int mc, .ref r_2, .int (nI (n + 1))])), (r_2, eQ G cap1 (va_up g1 n (some v)))] := hD
    exact x_vret hQ hx hb hr hlk hS.2.2 dJx4a65c_add_72be8_22 (⟨hS.fr, _, _, _, ⟨by have := hcap.1; omega, hcap.2⟩, hP, hD, fun k hk => (by unfold va_up; rw [if_neg (by omega)]; exact hg1 k hk), (by unfold va_up; rw [if_pos rfl])⟩)
set_option maxHeartbeats 4000000 in
set_option maxRecDepth 100000 in
theorem c_add3R {l : Launch} {G : gT} {A : Nat → Prop} {H0 : Heap} {zA : Nat × Nat} {a ea n cap : Nat} {mc : Int32} {g : Nat → Option Nat} (hP : va_P (gD G) vC [(a, alO mc ea n), (ea, eQ G cap g)] H0) (hD : va_D A [(a, alO mc ea n), (ea, eQ G cap g)]) (hA : ∀ q, H0.size ≤ q → A q) {ci : Nat} (hci : ci = 0 ∨ ci = 2) (hnc : n < cap) (hcap : capOK cap) {v : Nat} {fs : List Value} (hv : pt G v (.inr (ci, fs)) H0) (hvA : ¬ A v) : WzV G zA l yJx4a65c_add_72be8 wsJx4a65c_add_72be8 rmJx4a65c_add_72be8 [.ref a, .ref v, .ref ea, .int (nI n)] H0 A 1 22 (fun H1 => ∃ (e1 cap1 : Nat) (g1 : Nat → Option Nat), (n + 1 ≤ cap1 ∧ capOK cap1) ∧ va_P (gD G) vC [(a, alO mc e1 (n + 1)), (e1, eQ G cap1 g1)] H1 ∧ va_D A [(a, alO mc e1 (n + 1)), (e1, eQ G cap1 g1)] ∧ (∀ k, k < n → g1 k = g k) ∧ g1 n = some v) := by
  refine x_headz (bytes := cJx4a65c_add_72be8) (maxL := 4) (ret := none) (by decide) rfl (Nat.le_of_ble_eq_true rfl) ?_
  intro p e s m below meth c ls hx hb hml hown hts hr hlk hnm hK hs0 hl Q hQ hZ
  have hl : lv_has ls 4 [(0, .ref a), (1, .ref v), (2, .ref ea), (3, .int (nI n))] := hl
  have hC : CallFix p m c cJx4a65c_add_72be8 4 s [.ref a, .ref v, .ref ea, .int (nI n)].toArray wsJx4a65c_add_72be8 RJx4a65c := ⟨hx, hb, hml, hown, hts⟩
  have k_f48 := hts (.fieldLink RJx4a65c 48 "java/util/ArrayList" "size" "I") (by decide +kernel)
  have in_Jx4a65c : ∀ w ∈ u_ws RJx4a65c TJx4a65c 3, w ∈ wsJx4a65c_add_72be8 := by decide +kernel
  have hN := hZ.nn
  have hS : va_S A H0 H0 [] := va_S.rf
  have hcap22 : cap ≤ 22 := by unfold capOK at hcap; omega
  refine lv_iload_n hx hb dJx4a65c_add_72be8_0 rfl (lv_at hl 3 rfl) ?_
  refine lv_aload_n hx hb dJx4a65c_add_72be8_1 rfl (lv_at hl 2 rfl) ?_
  refine x_alen (t0 := 1) hx hb hK (hP 1 _ rfl) rfl dJx4a65c_add_72be8_2 ?_
  refine x_icmp_ne (tgt := 11) hx hb (by omega) (by omega) dJx4a65c_add_72be8_3 (by decide) (fun c_1 => ?_) (fun c_1 => ?_)
  · refine lv_aload_n hx hb dJx4a65c_add_72be8_11 rfl (lv_at hl 2 rfl) ?_
    refine lv_iload_n hx hb dJx4a65c_add_72be8_12 rfl (lv_at hl 3 rfl) ?_
    refine lv_aload_n hx hb dJx4a65c_add_72be8_13 rfl (lv_at hl 1 rfl) ?_
    obtain ⟨q8, hq8, hca⟩ := hZ.cas hci
    refine x_aast hx hb hK hP hD hS 1 rfl (x_any hK (va_at.kept hv (hS.2.1 _ hv.lt hvA)) hq8 hca) (by omega) (by omega) dJx4a65c_add_72be8_14 (fun H locs hP hD hS => ?_)
    have hP : va_P (gD G) vC [(a, .inr (5, [.int mc, .ref ea, .int (nI n)])), (ea, eQ G cap (va_up g n (some v)))] H := hP
    have hD : va_D A [(a, .inr (5, [.int mc, .ref ea, .int (nI n)])), (ea, eQ G cap (va_up g n (some v)))] := hD
    refine lv_aload_n hx hb dJx4a65c_add_72be8_15 rfl (lv_at hl 0 rfl) ?_
    refine lv_iload_n hx hb dJx4a65c_add_72be8_16 rfl (lv_at hl 3 rfl) ?_
    refine lv_iconst (v := nI 1) hx hb dJx4a65c_add_72be8_17 (by decide +kernel) ?_
    refine x_iaddN hx hb dJx4a65c_add_72be8_18 ?_
    refine va_put (D := gD G) (ci := 5) (v := .int (nI (n + 1))) (ty := .int) (C := RJx4a65c) (T := TJx4a65c) (N := 3) hx hb hts in_Jx4a65c tyJx4a65c tyJx4a65c_ok nmJx4a65c hown hK hP hD hS 0 rfl rfl 2 (by decide) k_f48 (fun _ h9 => h9) rfl (by decide +kernel) rfl rfl (Nat.le_of_ble_eq_true rfl) dJx4a65c_add_72be8_19 (fun H locs hP hD hS => ?_)
    have hP : va_P (gD G) vC [(a, .inr (5, [.int mc, .ref ea, .int (nI (n + 1))])), (ea, eQ G cap (va_up g n (some v)))] H := hP
    have hD : va_D A [(a, .inr (5, [.int mc, .ref ea, .int (nI (n + 1))])), (ea, eQ G cap (va_up g n (some v)))] := hD
    refine W.widen (k := 1) (n := 22) (Nat.zero_le _) (Nat.zero_le _) ?_
    exact x_vret hQ hx hb hr hlk hS.2.2 dJx4a65c_add_72be8_22 (⟨hS.fr, _, _, _, ⟨by omega, hcap⟩, hP, hD, fun k hk => (by unfold va_up; rw [if_neg (by omega)]), (by unfold va_up; rw [if_pos rfl])⟩)
  · exact absurd c_1 (by omega)
set_option maxHeartbeats 4000000 in
set_option maxRecDepth 100000 in
theorem c_add3A {l : Launch} {G : gT} {A : Nat → Prop} {H0 : Heap} {zA : Nat × Nat} {a : Nat} {mc : Int32} (hP : va_P (gD G) vC [(a, alO mc zA.1 0)] H0) (hD : va_D A [(a, alO mc zA.1 0)]) (hA : ∀ q, H0.size ≤ q → A q) {ci : Nat} (hci : ci = 0 ∨ ci = 2) {v : Nat} {fs : List Value} (hv : pt G v (.inr (ci, fs)) H0) (hvA : ¬ A v) : WzV G zA l yJx4a65c_add_72be8 wsJx4a65c_add_72be8 rmJx4a65c_add_72be8 [.ref a, .ref v, .ref zA.1, .int (nI 0)] H0 A 1 22 (fun H1 => ∃ (e1 cap1 : Nat) (g1 : Nat → Option Nat), (0 + 1 ≤ cap1 ∧ capOK cap1) ∧ va_P (gD G) vC [(a, alO mc e1 (0 + 1)), (e1, eQ G cap1 g1)] H1 ∧ va_D A [(a, alO mc e1 (0 + 1)), (e1, eQ G cap1 g1)] ∧ (∀ k, k < 0 → g1 k = (fun _ => none) k) ∧ g1 0 = some v) := by
  refine x_headz (bytes := cJx4a65c_add_72be8) (maxL := 4) (ret := none) (by decide) rfl (Nat.le_of_ble_eq_true rfl) ?_
  intro p e s m below meth c ls hx hb hml hown hts hr hlk hnm hK hs0 hl Q hQ hZ
  have hl : lv_has ls 4 [(0, .ref a), (1, .ref v), (2, .ref zA.1), (3, .int (nI 0))] := hl
  have hC : CallFix p m c cJx4a65c_add_72be8 4 s [.ref a, .ref v, .ref zA.1, .int (nI 0)].toArray wsJx4a65c_add_72be8 RJx4a65c := ⟨hx, hb, hml, hown, hts⟩
  have k_f48 := hts (.fieldLink RJx4a65c 48 "java/util/ArrayList" "size" "I") (by decide +kernel)
  have in_Jx4a65c : ∀ w ∈ u_ws RJx4a65c TJx4a65c 3, w ∈ wsJx4a65c_add_72be8 := by decide +kernel
  have hN := hZ.nn
  have hS : va_S A H0 H0 [] := va_S.rf
  refine lv_iload_n hx hb dJx4a65c_add_72be8_0 rfl (lv_at hl 3 rfl) ?_
  refine lv_aload_n hx hb dJx4a65c_add_72be8_1 rfl (lv_at hl 2 rfl) ?_
  refine x_alen (t0 := 1) hx hb hK ((hZ.at hS).1.2.1) rfl dJx4a65c_add_72be8_2 ?_
  refine x_icmp_ne (tgt := 11) hx hb (by omega) (by omega) dJx4a65c_add_72be8_3 (by decide) (fun c_1 => ?_) (fun c_1 => ?_)
  · exact absurd rfl c_1
  · refine lv_aload_n hx hb dJx4a65c_add_72be8_6 rfl (lv_at hl 0 rfl) ?_
    refine x_runr (va_runV (As := []) (rest := []) hC (c_grow2A hP hD (fun q h9 => hA q (Nat.le_trans hS.1 h9)) ) (cwV 0 hts gJx4a65c_add_72be8_Jx4a65c_grow_d5877 rfl rfl rfl qdJx4a65c_grow_d5877 ⟨Nat.le_of_ble_eq_true rfl, Nat.le_of_ble_eq_true rfl⟩) (x_preVz hK (hZ.at hS) (x_recv hK (hP 0 _ rfl) rfl)) rfl rfl hl.1 rfl (lv_room (Nat.le_of_ble_eq_true rfl)) dJx4a65c_add_72be8_7 ⟨Nat.le_of_ble_eq_true rfl, Nat.le_of_ble_eq_true rfl⟩) hS (fun _ h => h) (fun r_2 H locs hfr hΦ hS => ?_)
    obtain ⟨cap1, g1, hcap, hP, hD, hg1⟩ := hΦ
    refine lv_astore_n (lv' := [(2, .ref r_2), (0, .ref a), (1, .ref v), (3, .int (nI 0))]) hx hb dJx4a65c_add_72be8_10 rfl hl (by decide) rfl (fun ls hl => ?_)
    have hcA := hcap.1; have hcB : cap1 ≤ 22 := by have q := hcap.2; unfold capOK at q; omega
    refine lv_aload_n hx hb dJx4a65c_add_72be8_11 rfl (lv_at hl 0 rfl) ?_
    refine lv_iload_n hx hb dJx4a65c_add_72be8_12 rfl (lv_at hl 3 rfl) ?_
    refine lv_aload_n hx hb dJx4a65c_add_72be8_13 rfl (lv_at hl 2 rfl) ?_
    obtain ⟨q8, hq8, hca⟩ := hZ.cas hci
    refine x_aast hx hb hK hP hD hS 1 rfl (x_any hK (va_at.kept hv (hS.2.1 _ hv.lt hvA)) hq8 hca) (by omega) (by omega) dJx4a65c_add_72be8_14 (fun H locs hP hD hS => ?_)
    have hP : va_P (gD G) vC [(a, .inr (5, [.int mc, .ref r_2, .int (nI 0)])), (r_2, eQ G cap1 (va_up g1 0 (some v)))] H := hP
    have hD : va_D A [(a, .inr (5, [.int mc, .ref r_2, .int (nI 0)])), (r_2, eQ G cap1 (va_up g1 0 (some v)))] := hD
    refine lv_aload_n hx hb dJx4a65c_add_72be8_15 rfl (lv_at hl 1 rfl) ?_
    refine lv_iload_n hx hb dJx4a65c_add_72be8_16 rfl (lv_at hl 3 rfl) ?_
    refine lv_iconst (v := nI 1) hx hb dJx4a65c_add_72be8_17 (by decide +kernel) ?_
    refine x_iaddN hx hb dJx4a65c_add_72be8_18 ?_
    refine va_put (D := gD G) (ci := 5) (v := .int (nI (0 + 1))) (ty := .int) (C := RJx4a65c) (T := TJx4a65c) (N := 3) hx hb hts in_Jx4a65c tyJx4a65c tyJx4a65c_ok nmJx4a65c hown hK hP hD hS 0 rfl rfl 2 (by decide) k_f48 (fun _ h9 => h9) rfl (by decide +kernel) rfl rfl (Nat.le_of_ble_eq_true rfl) dJx4a65c_add_72be8_19 (fun H locs hP hD hS => ?_)
    have hP : va_P (gD G) vC [(a, .inr (5, [.int mc, .ref r_2, .int (nI (0 + 1))])), (r_2, eQ G cap1 (va_up g1 0 (some v)))] H := hP
    have hD : va_D A [(a, .inr (5, [.int mc, .ref r_2, .int (nI (0 + 1))])), (r_2, eQ G cap1 (va_up g1 0 (some v)))] := hD
    exact x_vret hQ hx hb hr hlk hS.2.2 dJx4a65c_add_72be8_22 (⟨hS.fr, _, _, _, ⟨by have := hcap.1; omega, hcap.2⟩, hP, hD, fun k hk => absurd hk (Nat.not_lt_zero _), (by unfold va_up; rw [if_pos rfl])⟩)
