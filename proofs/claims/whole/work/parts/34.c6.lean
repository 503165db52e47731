theorem mn_nat {a b : Nat} (ha : a < 2 ^ 31) (hb : b < 2 ^ 31) (h : a ≤ b) : mn (nI a) (nI b) = nI a := by
  unfold mn
  exact if_neg (nI_nlt (by omega) (by omega))
abbrev rmJ8_newLength_cabcc : Room := { frames := 1, cells := 0, slots := 0, locals := 18 }
theorem qdJ8_newLength_cabcc : yJ8_newLength_cabcc.cls = RJ8 ∧ yJ8_newLength_cabcc.cls ≠ "java/lang/invoke/MethodHandle" ∧ yJ8_newLength_cabcc.cls ≠ "java/lang/invoke/VarHandle" ∧ (parseMethodDescriptor yJ8_newLength_cabcc.desc).map (fun d => d.parameters.length) = some 3 := by decide +kernel
set_option maxHeartbeats 4000000 in
set_option maxRecDepth 100000 in
theorem c_J8_newLength_cabcc {l : Launch} {G : gT} {H : Heap} {o g : Nat} (hg1 : 1 ≤ g) (hog : o + g < 2 ^ 30) : Rd G l yJ8_newLength_cabcc wsJ8_newLength_cabcc rmJ8_newLength_cabcc [.int (nI o), .int (nI 1), .int (nI g)] H (.int (nI (o + g))) := by
  refine x_head (bytes := cJ8_newLength_cabcc) (maxL := 4) (ret := (some .int)) (by decide) rfl (Nat.le_of_ble_eq_true rfl) ?_
  intro p e s m below meth c ls hx hb hml hown hts hr hlk hnm hK hs0 hl Q hQ
  have hl : lv_has ls 4 [(0, .int (nI o)), (1, .int (nI 1)), (2, .int (nI g))] := hl
  have hC : CallFix p m c cJ8_newLength_cabcc 4 s [.int (nI o), .int (nI 1), .int (nI g)].toArray wsJ8_newLength_cabcc RJ8 := ⟨hx, hb, hml, hown, hts⟩
  have k_m194 := hts (.methodLink RJ8 194 Lib.Math.max.name) (by decide +kernel)
  have k_msmax := hts (.static Lib.Math.max.name) (by decide +kernel)
  have k_mi := hts (.initialized "java/lang/Math") (by decide +kernel)
  have k_mcmax := hts (.code Lib.Math.max.name Lib.Math.max.code 2 (some .int)) (by decide +kernel)
  have k_c200 := hts (.constant RJ8 200 (2147483639)) (by decide +kernel)
  refine lv_iload_n hx hb dJ8_newLength_cabcc_0 rfl (lv_at hl 0 rfl) ?_
  refine lv_iload_n hx hb dJ8_newLength_cabcc_1 rfl (lv_at hl 1 rfl) ?_
  refine lv_iload_n hx hb dJ8_newLength_cabcc_2 rfl (lv_at hl 2 rfl) ?_
  refine va_mmax hx hb (hml.trans hl.1.symm) hown k_m194 k_msmax k_mi k_mcmax (by decide) (Nat.le_of_ble_eq_true rfl) (Nat.zero_le _) (Nat.zero_le _) dJ8_newLength_cabcc_3 ?_
  refine W.eq (g2 := F0 m 6 ls [.int (mx (nI 1) (nI g)), .int (nI o)]) rfl ?_
  refine W.eq (g2 := F0 m 6 ls [.int (nI g), .int (nI o)]) (by rw [show mx (nI 1) (nI g) = nI g by rw [mx_nat (by omega) (by omega), Nat.max_eq_right hg1]]) ?_
  refine x_iaddN hx hb dJ8_newLength_cabcc_6 ?_
  refine lv_istore_n (lv' := [(3, .int (nI (o + g))), (0, .int (nI o)), (1, .int (nI 1)), (2, .int (nI g))]) hx hb dJ8_newLength_cabcc_7 rfl hl (by decide) rfl (fun ls hl => ?_)
  refine lv_iconst (v := nI 0) hx hb dJ8_newLength_cabcc_8 (by decide +kernel) ?_
  refine lv_iload_n hx hb dJ8_newLength_cabcc_9 rfl (lv_at hl 0 rfl) ?_
  refine x_icmp_ge (tgt := 21) hx hb (by omega) (by omega) dJ8_newLength_cabcc_10 (by decide) (fun c_1 => ?_) (fun c_1 => ?_)
  · exact absurd c_1 (by omega)
  · refine lv_iload_n hx hb dJ8_newLength_cabcc_13 rfl (lv_at hl 0 rfl) ?_
    refine lv_ldc (v := nI 2147483639) hx hb hown k_c200 dJ8_newLength_cabcc_14 ?_
    refine x_icmp_gt (tgt := 21) hx hb (by omega) (by omega) dJ8_newLength_cabcc_16 (by decide) (fun c_2 => ?_) (fun c_2 => ?_)
    · exact absurd c_2 (by omega)
    · refine lv_iload_n hx hb dJ8_newLength_cabcc_19 rfl (lv_at hl 0 rfl) ?_
      exact x_rdi hQ hx hb hr rfl hlk (rfl) dJ8_newLength_cabcc_20
abbrev rmJ7_copyOf_6403c : Room := { frames := 1, cells := 1, slots := 22, locals := 30 }
theorem qdJ7_copyOf_6403c : yJ7_copyOf_6403c.cls = RJ7 ∧ yJ7_copyOf_6403c.cls ≠ "java/lang/invoke/MethodHandle" ∧ yJ7_copyOf_6403c.cls ≠ "java/lang/invoke/VarHandle" ∧ (parseMethodDescriptor yJ7_copyOf_6403c.desc).map (fun d => d.parameters.length) = some 3 := by decide +kernel
set_option maxHeartbeats 4000000 in
set_option maxRecDepth 100000 in
theorem c_J7_copyOf_6403c {l : Launch} {G : gT} {A : Nat → Prop} {H0 : Heap} {zA : Nat × Nat} {ea n N : Nat} {g : Nat → Option Nat} (hP : va_P (gD G) vC [(ea, eQ G n g)] H0) (hD : va_D A [(ea, eQ G n g)]) (hA : ∀ q, H0.size ≤ q → A q) {ci : Nat} (hci : ci = 0 ∨ ci = 2) (hel : ∀ k y, k < n → g k = some y → (∃ fs, pt G y (.inr (ci, fs)) H0) ∧ ¬ A y) (hnN : n ≤ N) (hN22 : N ≤ 22) : WzA G zA l yJ7_copyOf_6403c wsJ7_copyOf_6403c rmJ7_copyOf_6403c [.ref ea, .int (nI N), .ref zA.2] H0 A 1 22 (fun r H1 => ∃ g1, va_P (gD G) vC [(ea, eQ G n g), (r, eQ G N g1)] H1 ∧ va_D A [(ea, eQ G n g), (r, eQ G N g1)] ∧ ∀ k, k < n → g1 k = g k) := by
  refine x_headz (bytes := cJ7_copyOf_6403c) (maxL := 4) (ret := (some (.array (.object "java/lang/Object")))) (by decide) rfl (Nat.le_of_ble_eq_true rfl) ?_
  intro p e s m below meth c ls hx hb hml hown hts hr hlk hnm hK hs0 hl Q hQ hZ
  have hl : lv_has ls 4 [(0, .ref ea), (1, .int (nI N)), (2, .ref zA.2)] := hl
  have hC : CallFix p m c cJ7_copyOf_6403c 4 s [.ref ea, .int (nI N), .ref zA.2].toArray wsJ7_copyOf_6403c RJ7 := ⟨hx, hb, hml, hown, hts⟩
  have k_cl110 := hts (.classLink RJ7 110 "[Ljava/lang/Object;") (by decide +kernel)
  have k_cl2 := hts (.classLink RJ7 2 "java/lang/Object") (by decide +kernel)
  have k_m304 := hts (.methodLink RJ7 304 Lib.Math.min.name) (by decide +kernel)
  have k_msmin := hts (.static Lib.Math.min.name) (by decide +kernel)
  have k_mi := hts (.initialized "java/lang/Math") (by decide +kernel)
  have k_mcmin := hts (.code Lib.Math.min.name Lib.Math.min.code 2 (some .int)) (by decide +kernel)
  have k_m150 := hts (.methodLink RJ7 150 arraycopyName) (by decide +kernel)
  have k_acn := hts (.native arraycopyName) (by decide +kernel)
  have k_acs := hts (.static arraycopyName) (by decide +kernel)
  have k_aci := hts (.initialized "java/lang/System") (by decide +kernel)
  have hN := hZ.nn
  have hS : va_S A H0 H0 [] := va_S.rf
  refine lv_aload_n hx hb dJ7_copyOf_6403c_0 rfl (lv_at hl 2 rfl) ?_
  refine va_ldcM hx hb hown k_cl110 hZ.2.2.1.2.1 dJ7_copyOf_6403c_1 ?_
  refine lv_acmp_ne (rx := some zA.2) (ry := some zA.2) (tgt := 13) hx hb dJ7_copyOf_6403c_3 (by decide) (fun c9 => absurd rfl c9) (fun _ => ?_)
  refine lv_iload_n hx hb dJ7_copyOf_6403c_6 rfl (lv_at hl 1 rfl) ?_
  refine x_newQ (N := N) hx hb hown k_cl2 hZ.2.2.1.1 hK hP hD hS hA (by omega) (by omega) (Nat.le_of_ble_eq_true rfl) (by show 0 + N ≤ 22; omega) dJ7_copyOf_6403c_7 (fun q_1 H hP hD hS => ?_)
  have hP : va_P (gD G) vC [(ea, eQ G n g), (q_1, eQ G N (fun _ => none))] H := hP
  have hD : va_D A [(ea, eQ G n g), (q_1, eQ G N (fun _ => none))] := hD
  refine lv_goto (tgt := 24) hx hb dJ7_copyOf_6403c_10 (by decide) ?_
  refine lv_astore_n (lv' := [(3, .ref q_1), (0, .ref ea), (1, .int (nI N)), (2, .ref zA.2)]) hx hb dJ7_copyOf_6403c_24 rfl hl (by decide) rfl (fun ls hl => ?_)
  refine lv_aload_n hx hb dJ7_copyOf_6403c_25 rfl (lv_at hl 1 rfl) ?_
  refine lv_iconst (v := nI 0) hx hb dJ7_copyOf_6403c_26 (by decide +kernel) ?_
  refine lv_aload_n hx hb dJ7_copyOf_6403c_27 rfl (lv_at hl 0 rfl) ?_
  refine lv_iconst (v := nI 0) hx hb dJ7_copyOf_6403c_28 (by decide +kernel) ?_
  refine lv_aload_n hx hb dJ7_copyOf_6403c_29 rfl (lv_at hl 1 rfl) ?_
  refine x_alen (t0 := 1) hx hb hK (hP 0 _ rfl) rfl dJ7_copyOf_6403c_30 ?_
  refine lv_iload_n hx hb dJ7_copyOf_6403c_31 rfl (lv_at hl 2 rfl) ?_
  refine va_mmin hx hb (hml.trans hl.1.symm) hown k_m304 k_msmin k_mi k_mcmin (by decide) (Nat.le_of_ble_eq_true rfl) (Nat.le_of_ble_eq_true rfl) (by show 0 + N ≤ 22; omega) dJ7_copyOf_6403c_32 ?_
  refine W.eq (g2 := F0 m 35 ls [.int (mn (nI n) (nI N)), .int (nI 0), .ref q_1, .int (nI 0), .ref ea]) rfl ?_
  refine W.eq (g2 := F0 m 35 ls [.int (nI n), .int (nI 0), .ref q_1, .int (nI 0), .ref ea]) (by rw [show mn (nI n) (nI N) = nI n from mn_nat (by omega) (by omega) hnN]) ?_
  obtain ⟨q8, hq8, hca⟩ := hZ.cas hci
  refine x_copyQ hx hb (hml.trans hl.1.symm) hown k_m150 k_acn k_acs k_aci hK hP hD hS 0 1 rfl rfl (by omega) (by omega) (by omega) (by omega) (by omega) hq8 hca (fun k hk y hy => (by rw [Nat.zero_add] at hy; obtain ⟨⟨fs, h1⟩, h2⟩ := hel k y hk hy; exact ⟨fs, va_at.kept h1 (hS.2.1 _ h1.lt h2)⟩)) (Nat.le_of_ble_eq_true rfl) (Nat.le_of_ble_eq_true (by decide +kernel)) dJ7_copyOf_6403c_35 (fun H locs hP hD hS => ?_)
  have hP : va_P (gD G) vC [(ea, eQ G n g), (q_1, eQ G N (va_cpy g (fun _ => none) 0 0 n))] H := hP
  have hD : va_D A [(ea, eQ G n g), (q_1, eQ G N (va_cpy g (fun _ => none) 0 0 n))] := hD
  refine lv_aload_n hx hb dJ7_copyOf_6403c_38 rfl (lv_at hl 0 rfl) ?_
  refine W.widen (k := 1) (n := 22) (Nat.le_refl _) (by show 0 + N ≤ 22; omega) ?_
  exact x_aret hQ hx hb hr (Or.inr ⟨_, rfl⟩) hlk hS.2.2 dJ7_copyOf_6403c_39 ⟨hS.fr, _, hP, hD, fun k hk => (pk_cpy_in (Nat.zero_le _) (by omega)).trans (by rw [Nat.zero_add, Nat.sub_zero])⟩
abbrev rmJ7_copyOf_1904c : Room := { frames := 2, cells := 1, slots := 22, locals := 53 }
theorem qdJ7_copyOf_1904c : yJ7_copyOf_1904c.cls = RJ7 ∧ yJ7_copyOf_1904c.cls ≠ "java/lang/invoke/MethodHandle" ∧ yJ7_copyOf_1904c.cls ≠ "java/lang/invoke/VarHandle" ∧ (parseMethodDescriptor yJ7_copyOf_1904c.desc).map (fun d => d.parameters.length) = some 2 := by decide +kernel
set_option maxHeartbeats 4000000 in
set_option maxRecDepth 100000 in
theorem c_J7_copyOf_1904c {l : Launch} {G : gT} {A : Nat → Prop} {H0 : Heap} {zA : Nat × Nat} {ea n N : Nat} {g : Nat → Option Nat} (hP : va_P (gD G) vC [(ea, eQ G n g)] H0) (hD : va_D A [(ea, eQ G n g)]) (hA : ∀ q, H0.size ≤ q → A q) {ci : Nat} (hci : ci = 0 ∨ ci = 2) (hel : ∀ k y, k < n → g k = some y → (∃ fs, pt G y (.inr (ci, fs)) H0) ∧ ¬ A y) (hnN : n ≤ N) (hN22 : N ≤ 22) : WzA G zA l yJ7_copyOf_1904c wsJ7_copyOf_1904c rmJ7_copyOf_1904c [.ref ea, .int (nI N)] H0 A 1 22 (fun r H1 => ∃ g1, va_P (gD G) vC [(ea, eQ G n g), (r, eQ G N g1)] H1 ∧ va_D A [(ea, eQ G n g), (r, eQ G N g1)] ∧ ∀ k, k < n → g1 k = g k) := by
  refine x_headz (bytes := cJ7_copyOf_1904c) (maxL := 2) (ret := (some (.array (.object "java/lang/Object")))) (by decide) rfl (Nat.le_of_ble_eq_true rfl) ?_
  intro p e s m below meth c ls hx hb hml hown hts hr hlk hnm hK hs0 hl Q hQ hZ
  have hl : lv_has ls 2 [(0, .ref ea), (1, .int (nI N))] := hl
  have hC : CallFix p m c cJ7_copyOf_1904c 2 s [.ref ea, .int (nI N)].toArray wsJ7_copyOf_1904c RJ7 := ⟨hx, hb, hml, hown, hts⟩
  have k_m86 := hts (.methodLink RJ7 86 ⟨"java/lang/Object", "getClass", "()Ljava/lang/Class;"⟩) (by decide +kernel)
  have k_gsel := hts (.selects "[Ljava/lang/Object;" ⟨"java/lang/Object", "getClass", "()Ljava/lang/Class;"⟩ ⟨"java/lang/Object", "getClass", "()Ljava/lang/Class;"⟩) (by decide +kernel)
  have k_gin := hts (.instanceMethod ⟨"java/lang/Object", "getClass", "()Ljava/lang/Class;"⟩) (by decide +kernel)
  have k_gna := hts (.native ⟨"java/lang/Object", "getClass", "()Ljava/lang/Class;"⟩) (by decide +kernel)
  have hN := hZ.nn
  have hS : va_S A H0 H0 [] := va_S.rf
  refine lv_aload_n hx hb dJ7_copyOf_1904c_0 rfl (lv_at hl 0 rfl) ?_
  refine lv_iload_n hx hb dJ7_copyOf_1904c_1 rfl (lv_at hl 1 rfl) ?_
  refine lv_aload_n hx hb dJ7_copyOf_1904c_2 rfl (lv_at hl 0 rfl) ?_
  refine x_gcls (mi := zA.2) hx hb (hml.trans hl.1.symm) hown k_m86 hZ.2.2.1.2.2 k_gsel k_gin k_gna hZ.2.2.1.2.1 hK (hP 0 _ rfl) (Nat.le_of_ble_eq_true rfl) (Nat.le_of_ble_eq_true rfl) dJ7_copyOf_1904c_3 ?_
  refine x_runr (va_runS (As := [.ref ea, .int (nI N), .ref zA.2]) (rest := []) hC (c_J7_copyOf_6403c hP hD hA hci hel hnN hN22) (cwS 3 hts gJ7_copyOf_1904c_J7_copyOf_6403c rfl rfl rfl qdJ7_copyOf_6403c ⟨Nat.le_of_ble_eq_true rfl, Nat.le_of_ble_eq_true rfl⟩) (x_preSz hK (hZ.at hS)) rfl rfl hl.1 rfl (lv_room (Nat.le_of_ble_eq_true rfl)) dJ7_copyOf_1904c_6 ⟨Nat.le_of_ble_eq_true rfl, Nat.le_of_ble_eq_true rfl⟩) hS (fun _ h => h) (fun r_1 H locs hfr hΦ hS => ?_)
  obtain ⟨g_2, hP, hD, hg1⟩ := hΦ
  exact x_aret hQ hx hb hr (Or.inr ⟨_, rfl⟩) hlk hS.2.2 dJ7_copyOf_1904c_9 ⟨hS.fr, _, hP, hD, hg1⟩
abbrev capOK (n : Nat) : Prop := n = 10 ∨ n = 15 ∨ n = 22
theorem pick_P {D : va_G} {cl : List vw_C} {x y z : Nat × va_E} {H : Heap} (h : va_P D cl [x, y, z] H) : va_P D cl [z, y] H := fun k q hk => by
  match k, hk with
  | 0, hk => cases hk; exact h 2 _ rfl
  | 1, hk => cases hk; exact h 1 _ rfl
theorem pick_D {A : Nat → Prop} {x y z : Nat × va_E} (h : va_D A [x, y, z]) : va_D A [z, y] := by
  refine ⟨fun i j p q hi hj hpq => ?_, fun k q hk => ?_⟩
  · match i, j, hi, hj with
    | 0, 0, _, _ => rfl
    | 1, 1, _, _ => rfl
    | 0, 1, hi, hj => cases hi; cases hj; exact absurd (h.1 2 1 _ _ rfl rfl hpq) (by decide)
    | 1, 0, hi, hj => cases hi; cases hj; exact absurd (h.1 1 2 _ _ rfl rfl hpq) (by decide)
  · match k, hk with
    | 0, hk => cases hk; exact h.2 2 _ rfl
    | 1, hk => cases hk; exact h.2 1 _ rfl
abbrev rmJx4a65c_grow_92f84 : Room := { frames := 3, cells := 1, slots := 22, locals := 74 }
theorem qdJx4a65c_grow_92f84 : yJx4a65c_grow_92f84.cls = RJx4a65c ∧ yJx4a65c_grow_92f84.cls ≠ "java/lang/invoke/MethodHandle" ∧ yJx4a65c_grow_92f84.cls ≠ "java/lang/invoke/VarHandle" ∧ (parseMethodDescriptor yJx4a65c_grow_92f84.desc).map (fun d => d.parameters.length) = some 1 := by decide +kernel
set_option maxHeartbeats 4000000 in
set_option maxRecDepth 100000 in
theorem c_growB {l : Launch} {G : gT} {A : Nat → Prop} {H0 : Heap} {zA : Nat × Nat} {a ea n : Nat} {mc : Int32} {g : Nat → Option Nat} (hP : va_P (gD G) vC [(ea, eQ G n g), (a, alO mc ea n)] H0) (hD : va_D A [(ea, eQ G n g), (a, alO mc ea n)]) (hA : ∀ q, H0.size ≤ q → A q) {ci : Nat} (hci : ci = 0 ∨ ci = 2) (hel : ∀ k y, k < n → g k = some y → (∃ fs, pt G y (.inr (ci, fs)) H0) ∧ ¬ A y) (hn : n = 10 ∨ n = 15) (hne : ¬ ea = zA.1) : WzA G zA l yJx4a65c_grow_92f84 wsJx4a65c_grow_92f84 rmJx4a65c_grow_92f84 [.ref a, .int (nI (n + 1))] H0 A 1 22 (fun r H1 => ∃ (cap1 : Nat) (g1 : Nat → Option Nat), (n < cap1 ∧ capOK cap1) ∧ va_P (gD G) vC [(a, alO mc r n), (r, eQ G cap1 g1)] H1 ∧ va_D A [(a, alO mc r n), (r, eQ G cap1 g1)] ∧ ∀ k, k < n → g1 k = g k) := by
  refine x_headz (bytes := cJx4a65c_grow_92f84) (maxL := 4) (ret := (some (.array (.object "java/lang/Object")))) (by decide) rfl (Nat.le_of_ble_eq_true rfl) ?_
  intro p e s m below meth c ls hx hb hml hown hts hr hlk hnm hK hs0 hl Q hQ hZ
  have hl : lv_has ls 4 [(0, .ref a), (1, .int (nI (n + 1)))] := hl
  have hC : CallFix p m c cJx4a65c_grow_92f84 4 s [.ref a, .int (nI (n + 1))].toArray wsJx4a65c_grow_92f84 RJx4a65c := ⟨hx, hb, hml, hown, hts⟩
  have k_f9 := hts (.fieldLink RJx4a65c 9 "java/util/ArrayList" "elementData" "[Ljava/lang/Object;") (by decide +kernel)
  have in_Jx4a65c : ∀ w ∈ u_ws RJx4a65c TJx4a65c 3, w ∈ wsJx4a65c_grow_92f84 := by decide +kernel
  have hN := hZ.nn
  have hS : va_S A H0 H0 [] := va_S.rf
  refine lv_aload_n hx hb dJx4a65c_grow_92f84_0 rfl (lv_at hl 0 rfl) ?_
  refine x_get (T := TJx4a65c) (N := 3) (v := .ref ea) hx hb hts in_Jx4a65c hown hK (hP 1 _ rfl) rfl 1 (by decide) k_f9 (fun _ h9 => h9) (rfl) dJx4a65c_grow_92f84_1 ?_
  refine x_alen (t0 := 1) hx hb hK (hP 0 _ rfl) rfl dJx4a65c_grow_92f84_4 ?_
  refine lv_istore_n (lv' := [(2, .int (nI n)), (0, .ref a), (1, .int (nI (n + 1)))]) hx hb dJx4a65c_grow_92f84_5 rfl hl (by decide) rfl (fun ls hl => ?_)
  refine lv_iload_n hx hb dJx4a65c_grow_92f84_6 rfl (lv_at hl 0 rfl) ?_
  refine lv_if_gt (tgt := 20) hx hb dJx4a65c_grow_92f84_7 (by decide) (fun c_1 => ?_) (fun c_1 => ?_)
  · refine lv_iload_n hx hb dJx4a65c_grow_92f84_20 rfl (lv_at hl 0 rfl) ?_
    refine lv_iload_n hx hb dJx4a65c_grow_92f84_21 rfl (lv_at hl 2 rfl) ?_
    refine lv_iload_n hx hb dJx4a65c_grow_92f84_22 rfl (lv_at hl 0 rfl) ?_
    refine x_isubN hx hb dJx4a65c_grow_92f84_23 (by omega) ?_
    refine W.eq (g2 := F0 m 24 ls [.int (nI 1), .int (nI n)]) (congrArg (fun z => F0 m 24 ls (.int z :: [.int (nI n)])) (by rw [Nat.add_sub_cancel_left])) ?_
    refine lv_iload_n hx hb dJx4a65c_grow_92f84_24 rfl (lv_at hl 0 rfl) ?_
    refine lv_iconst (v := nI 1) hx hb dJx4a65c_grow_92f84_25 (by decide +kernel) ?_
    refine lv_ishr hx hb dJx4a65c_grow_92f84_26 ?_
    refine W.eq (g2 := F0 m 27 ls [.int (nI (n / 2)), .int (nI 1), .int (nI n)]) (congrArg (fun z => F0 m 27 ls (.int z :: [.int (nI 1), .int (nI n)])) (shr1 (by omega))) ?_
    refine x_rd (va_runS (As := [.int (nI n), .int (nI 1), .int (nI (n / 2))]) (rest := []) hC (c_J8_newLength_cabcc (by omega) (by omega)) (va_cwS 3 hts gJx4a65c_grow_92f84_J8_newLength_cabcc rfl rfl rfl qdJ8_newLength_cabcc.2 ⟨Nat.le_of_ble_eq_true rfl, Nat.le_of_ble_eq_true rfl⟩) (x_preS hK) rfl rfl hl.1 rfl (lv_room (Nat.le_of_ble_eq_true rfl)) dJx4a65c_grow_92f84_27 ⟨Nat.le_of_ble_eq_true rfl, Nat.le_of_ble_eq_true rfl⟩) ?_
    refine lv_istore_n (lv' := [(3, .int (nI (n + (n / 2)))), (2, .int (nI n)), (0, .ref a), (1, .int (nI (n + 1)))]) hx hb dJx4a65c_grow_92f84_30 rfl hl (by decide) rfl (fun ls hl => ?_)
    refine lv_aload_n hx hb dJx4a65c_grow_92f84_31 rfl (lv_at hl 2 rfl) ?_
    refine lv_aload_n hx hb dJx4a65c_grow_92f84_32 rfl (lv_at hl 2 rfl) ?_
    refine x_get (T := TJx4a65c) (N := 3) (v := .ref ea) hx hb hts in_Jx4a65c hown hK (hP 1 _ rfl) rfl 1 (by decide) k_f9 (fun _ h9 => h9) (rfl) dJx4a65c_grow_92f84_33 ?_
    refine lv_iload_n hx hb dJx4a65c_grow_92f84_36 rfl (lv_at hl 0 rfl) ?_
    have hD0 := hD
    have hA9 : ∀ q, H0.size ≤ q → A q := fun q h9 => hA q (Nat.le_trans hS.1 h9)
    have hsub := nset_A (va_Dl (ws := [(ea, eQ G n g)]) (X := [(a, alO mc ea n)]) hD) hA9
    refine x_runr (va_runS (As := [.ref ea, .int (nI (n + (n / 2)))]) (rest := [.ref a]) hC (c_J7_copyOf_1904c (A := nset [(ea, eQ G n g)] H0) (va_Pl (ws := [(ea, eQ G n g)]) (X := [(a, alO mc ea n)]) hP) (nset_D (va_Dl (ws := [(ea, eQ G n g)]) (X := [(a, alO mc ea n)]) hD)) (fun q h9 => Or.inr h9) hci (fun k y hk hy => (by obtain ⟨⟨fs, h1⟩, h2⟩ := hel k y hk hy; exact ⟨⟨fs, va_at.kept h1 (hS.2.1 _ h1.lt h2)⟩, fun z => h2 (hsub y z)⟩)) (by omega) (by omega)) (va_cwS 2 hts gJx4a65c_grow_92f84_J7_copyOf_1904c rfl rfl rfl qdJ7_copyOf_1904c.2 ⟨Nat.le_of_ble_eq_true rfl, Nat.le_of_ble_eq_true rfl⟩) (x_preSz hK ((hZ.at hS).narrow hsub)) rfl rfl hl.1 rfl (lv_room (Nat.le_of_ble_eq_true rfl)) dJx4a65c_grow_92f84_37 ⟨Nat.le_of_ble_eq_true rfl, Nat.le_of_ble_eq_true rfl⟩) hS hsub (fun r_2 H locs hfr hΦ hS => ?_)
    obtain ⟨g_3, hP9, hD9, hg1⟩ := hΦ
    have hD := nset_app (X := [(a, alO mc ea n)]) hP hD hA9 hD9
    have hP : va_P (gD G) vC [(ea, eQ G n g), (r_2, eQ G (n + n / 2) g_3), (a, alO mc ea n)] H := ext_call (X := [(a, alO mc ea n)]) hP hD0 (nset_fr hfr) hP9
    have hD : va_D A [(ea, eQ G n g), (r_2, eQ G (n + n / 2) g_3), (a, alO mc ea n)] := hD
    refine lv_dup_x1 hx hb dJx4a65c_grow_92f84_40 rfl rfl ?_
    refine va_put (D := gD G) (ci := 5) (v := .ref r_2) (ty := (.array (.object "java/lang/Object"))) (C := RJx4a65c) (T := TJx4a65c) (N := 3) hx hb hts in_Jx4a65c tyJx4a65c tyJx4a65c_ok nmJx4a65c hown hK hP hD hS 2 rfl rfl 1 (by decide) k_f9 (fun _ h9 => h9) rfl (by decide +kernel) rfl rfl (Nat.le_of_ble_eq_true rfl) dJx4a65c_grow_92f84_41 (fun H locs hP hD hS => ?_)
    have hP : va_P (gD G) vC [(ea, eQ G n g), (r_2, eQ G (n + n / 2) g_3), (a, .inr (5, [.int mc, .ref r_2, .int (nI n)]))] H := hP
    have hD : va_D A [(ea, eQ G n g), (r_2, eQ G (n + n / 2) g_3), (a, .inr (5, [.int mc, .ref r_2, .int (nI n)]))] := hD
    exact x_aret hQ hx hb hr (Or.inr ⟨_, rfl⟩) hlk hS.2.2 dJx4a65c_grow_92f84_44 ⟨hS.fr, n + n / 2, _, ⟨by omega, by unfold capOK; omega⟩, pick_P hP, pick_D hD, hg1⟩
  · exact absurd (show (0 : Int32) < nI n from nI_lt (a := 0) (by omega) (by omega)) c_1
set_option maxHeartbeats 4000000 in
set_option maxRecDepth 100000 in
theorem c_growA {l : Launch} {G : gT} {A : Nat → Prop} {H0 : Heap} {zA : Nat × Nat} {a : Nat} {mc : Int32} (hP : va_P (gD G) vC [(a, alO mc zA.1 0)] H0) (hD : va_D A [(a, alO mc zA.1 0)]) (hA : ∀ q, H0.size ≤ q → A q) : WzA G zA l yJx4a65c_grow_92f84 wsJx4a65c_grow_92f84 rmJx4a65c_grow_92f84 [.ref a, .int (nI 1)] H0 A 1 22 (fun r H1 => ∃ (cap1 : Nat) (g1 : Nat → Option Nat), (0 < cap1 ∧ capOK cap1) ∧ va_P (gD G) vC [(a, alO mc r 0), (r, eQ G cap1 g1)] H1 ∧ va_D A [(a, alO mc r 0), (r, eQ G cap1 g1)] ∧ ∀ k, k < 0 → g1 k = (fun _ => none) k) := by
  refine x_headz (bytes := cJx4a65c_grow_92f84) (maxL := 4) (ret := (some (.array (.object "java/lang/Object")))) (by decide) rfl (Nat.le_of_ble_eq_true rfl) ?_
  intro p e s m below meth c ls hx hb hml hown hts hr hlk hnm hK hs0 hl Q hQ hZ
  have hl : lv_has ls 4 [(0, .ref a), (1, .int (nI 1))] := hl
  have hC : CallFix p m c cJx4a65c_grow_92f84 4 s [.ref a, .int (nI 1)].toArray wsJx4a65c_grow_92f84 RJx4a65c := ⟨hx, hb, hml, hown, hts⟩
  have k_f9 := hts (.fieldLink RJx4a65c 9 "java/util/ArrayList" "elementData" "[Ljava/lang/Object;") (by decide +kernel)
  have in_Jx4a65c : ∀ w ∈ u_ws RJx4a65c TJx4a65c 3, w ∈ wsJx4a65c_grow_92f84 := by decide +kernel
  have k_f39 := hts (.fieldLink RJx4a65c 39 "java/util/ArrayList" "DEFAULTCAPACITY_EMPTY_ELEMENTDATA" "[Ljava/lang/Object;") (by decide +kernel)
  have k_m79 := hts (.methodLink RJx4a65c 79 Lib.Math.max.name) (by decide +kernel)
  have k_msmax := hts (.static Lib.Math.max.name) (by decide +kernel)
  have k_mi := hts (.initialized "java/lang/Math") (by decide +kernel)
  have k_mcmax := hts (.code Lib.Math.max.name Lib.Math.max.code 2 (some .int)) (by decide +kernel)
  have k_cl7 := hts (.classLink RJx4a65c 7 "java/lang/Object") (by decide +kernel)
  have hN := hZ.nn
  have hS : va_S A H0 H0 [] := va_S.rf
  refine lv_aload_n hx hb dJx4a65c_grow_92f84_0 rfl (lv_at hl 0 rfl) ?_
  refine x_get (T := TJx4a65c) (N := 3) (v := .ref zA.1) hx hb hts in_Jx4a65c hown hK (hP 0 _ rfl) rfl 1 (by decide) k_f9 (fun _ h9 => h9) (rfl) dJx4a65c_grow_92f84_1 ?_
  refine x_tlen hx hb hs0 hZ hS dJx4a65c_grow_92f84_4 ?_
  refine lv_istore_n (lv' := [(2, .int (nI 0)), (0, .ref a), (1, .int (nI 1))]) hx hb dJx4a65c_grow_92f84_5 rfl hl (by decide) rfl (fun ls hl => ?_)
  refine lv_iload_n hx hb dJx4a65c_grow_92f84_6 rfl (lv_at hl 0 rfl) ?_
  refine lv_if_gt (tgt := 20) hx hb dJx4a65c_grow_92f84_7 (by decide) (fun c_1 => ?_) (fun c_1 => ?_)
  · exact absurd c_1 (by decide)
  · refine lv_aload_n hx hb dJx4a65c_grow_92f84_10 rfl (lv_at hl 1 rfl) ?_
    refine x_get (T := TJx4a65c) (N := 3) (v := .ref zA.1) hx hb hts in_Jx4a65c hown hK (hP 0 _ rfl) rfl 1 (by decide) k_f9 (fun _ h9 => h9) (rfl) dJx4a65c_grow_92f84_11 ?_
    refine x_gets hx hb hs0 hZ.1.1 hS hown k_f39 dJx4a65c_grow_92f84_14 ?_
    refine lv_acmp_eq (rx := some zA.1) (ry := some zA.1) (tgt := 45) hx hb dJx4a65c_grow_92f84_17 (by decide) (fun _ => ?_) (fun c9 => absurd rfl c9)
    refine lv_aload_n hx hb dJx4a65c_grow_92f84_45 rfl (lv_at hl 1 rfl) ?_
    refine lv_bipush (v := nI 10) hx hb dJx4a65c_grow_92f84_46 (by decide +kernel) ?_
    refine lv_iload_n hx hb dJx4a65c_grow_92f84_48 rfl (lv_at hl 2 rfl) ?_
    refine va_mmax hx hb (hml.trans hl.1.symm) hown k_m79 k_msmax k_mi k_mcmax (by decide) (Nat.le_of_ble_eq_true rfl) (Nat.zero_le _) (Nat.zero_le _) dJx4a65c_grow_92f84_49 ?_
    refine W.eq (g2 := F0 m 52 ls [.int (mx (nI 10) (nI 1)), .ref a]) rfl ?_
    refine W.eq (g2 := F0 m 52 ls [.int (nI 10), .ref a]) (by rw [show mx (nI 10) (nI 1) = nI 10 by decide]) ?_
    refine x_newQ (N := 10) hx hb hown k_cl7 hZ.2.2.1.1 hK hP hD hS hA (by omega) (by omega) (Nat.le_of_ble_eq_true rfl) (Nat.le_of_ble_eq_true rfl) dJx4a65c_grow_92f84_52 (fun q_2 H hP hD hS => ?_)
    have hP : va_P (gD G) vC [(a, .inr (5, [.int mc, .ref zA.1, .int (nI 0)])), (q_2, eQ G 10 (fun _ => none))] H := hP
    have hD : va_D A [(a, .inr (5, [.int mc, .ref zA.1, .int (nI 0)])), (q_2, eQ G 10 (fun _ => none))] := hD
    refine lv_dup_x1 hx hb dJx4a65c_grow_92f84_55 rfl rfl ?_
    refine va_put (D := gD G) (ci := 5) (v := .ref q_2) (ty := (.array (.object "java/lang/Object"))) (C := RJx4a65c) (T := TJx4a65c) (N := 3) hx hb hts in_Jx4a65c tyJx4a65c tyJx4a65c_ok nmJx4a65c hown hK hP hD hS 0 rfl rfl 1 (by decide) k_f9 (fun _ h9 => h9) rfl (by decide +kernel) rfl rfl (Nat.le_of_ble_eq_true rfl) dJx4a65c_grow_92f84_56 (fun H locs hP hD hS => ?_)
    have hP : va_P (gD G) vC [(a, .inr (5, [.int mc, .ref q_2, .int (nI 0)])), (q_2, eQ G 10 (fun _ => none))] H := hP
    have hD : va_D A [(a, .inr (5, [.int mc, .ref q_2, .int (nI 0)])), (q_2, eQ G 10 (fun _ => none))] := hD
    refine W.widen (k := 1) (n := 22) (Nat.le_refl _) (by decide) ?_
    exact x_aret hQ hx hb hr (Or.inr ⟨_, rfl⟩) hlk hS.2.2 dJx4a65c_grow_92f84_59 ⟨hS.fr, 10, _, ⟨by omega, by unfold capOK; omega⟩, hP, hD, fun k hk => absurd hk (Nat.not_lt_zero _)⟩
