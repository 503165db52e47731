theorem mn_nat {a b : Nat} (ha : a < 2 ^ 31) (hb : b < 2 ^ 31) (h : a ≤ b) : mn (nI a) (nI b) = nI a := by
  unfold mn
  exact if_neg (nI_nlt (by omega) (by omega))
abbrev rmJ8_newLength_cabcc : Room := { frames := 1, cells := 0, slots := 0, locals := 18 }
theorem qdJ8_newLength_cabcc : yJ8_newLength_cabcc.cls = RJ8 ∧ yJ8_newLength_cabcc.cls ≠ "java/lang/invoke/MethodHandle" ∧ yJ8_newLength_cabcc.cls ≠ "java/lang/invoke/VarHandle" ∧ (parseMethodDescriptor yJ8_newLength_cabcc.desc).map (fun d => d.parameters.length) = some 3 := by decide +kernel
set_option maxHeartbeats 4000000 in
set_option maxRecDepth 100000 in
theorem c_J8_newLength_cabcc {l : Launch} {G : gT} {H : Heap} {o g : Nat} (hg1 : 1 ≤ g) (hog : o + g < 2 ^ 30) : Rd G l yJ8_newLength_cabcc wsJ8_newLength_cabcc rmJ8_newLength_cabcc [.int (nI o), .int (nI 1), .int (nI g)] H (.int (nI (o + g))) := by
  refine x_head (bytes := cJ8_newLength_cabcc) (maxL := 4) (ret := (some .int)) (by decide) rfl (Nat.le_of_ble_eq_true rfl) ?_
  intro p e s m below meth c ls hx hb hml hown hts hr hlk hnm hK hs0 hl Q hQ
  have hl : lv_has ls 4 [(0, .int (nI o)), (1, .int (nI 1)), (2, .int (nI g))] := hl
  have hC : CallFix p m c cJ8_newLength_cabcc 4 s [.int (nI o), .int (nI 1), .int (nI g)].toArray wsJ8_newLength_cabcc RJ8 := ⟨hx, hb, hml, hown, hts⟩
  have k_m194 := hts (.methodLink RJ8 194 Lib.Math.max.name) (by decide +kernel)
  have k_msmax := hts (.static Lib.Math.max.name) (by decide +kernel)
  have k_mi := hts (.initialized "java/lang/Math") (by decide +kernel)
  have k_mcmax := hts (.code Lib.Math.max.name Lib.Math.max.code 2 (some .int)) (by decide +kernel)
  have k_c200 := hts (.constant RJ8 200 (2147483639)) (by decide +kernel)
  refine lv_iload_n hx hb dJ8_newLength_cabcc_0 rfl (lv_at hl 0 rfl) ?_
  refine lv_iload_n hx hb dJ8_newLength_cabcc_1 rfl (lv_at hl 1 rfl) ?_
  refine lv_iload_n hx hb dJ8_newLength_cabcc_2 rfl (lv_at hl 2 rfl) ?_
  refine va_mmax hx hb (hml.trans hl.1.symm) hown k_m194 k_msmax k_mi k_mcmax (by decide) (Nat.le_of_ble_eq_true rfl) (Nat.zero_le _) (Nat.zero_le _) dJ8_newLength_cabcc_3 ?_
  refine W.eq (g2 := F0 m 6 ls [.int (mx (nI 1) (nI g)), .int (nI o)]) rfl ?_
  refine W.eq (g2 := F0 m 6 ls [.int (nI g), .int (nI o)]) (by rw [show mx (nI 1) (nI g) = nI g by rw [mx_nat (by omega) (by omega), Nat.max_eq_right hg1]]) ?_
  refine x_iaddN hx hb dJ8_newLength_cabcc_6 ?_
  refine lv_istore_n (lv' := [(3, .int (nI (o + g))), (0, .int (nI o)), (1, .int (nI 1)), (2, .int (nI g))]) hx hb dJ8_newLength_cabcc_7 rfl hl (by decide) rfl (fun ls hl => ?_)
  refine lv_iconst (v := nI 0) hx hb dJ8_newLength_cabcc_8 (by decide +kernel) ?_
  refine lv_iload_n hx hb dJ8_newLength_cabcc_9 rfl (lv_at hl 0 rfl) ?_
  refine x_icmp_ge (tgt := 21) hx hb (by omega) (by omega) dJ8_newLength_cabcc_10 (by decide) (fun c_1 => ?_) (fun c_1 => ?_)
  · exact absurd c_1 (by omega)
  · refine lv_iload_n hx hb dJ8_newLength_cabcc_13 rfl (lv_at hl 0 rfl) ?_
    refine lv_ldc (v := nI 2147483639) hx hb hown k_c200 dJ8_newLength_cabcc_14 ?_
    refine x_icmp_gt (tgt := 21) hx hb (by omega) (by omega) dJ8_newLength_cabcc_16 (by decide) (fun c_2 => ?_) (fun c_2 => ?_)
    · exact absurd c_2 (by omega)
    · refine lv_iload_n hx hb dJ8_newLength_cabcc_19 rfl (lv_at hl 0 rfl) ?_
      exact x_rdi hQ hx hb hr rfl hlk (rfl) dJ8_newLength_cabcc_20
abbrev rmJ7_copyOf_6403c : Room := { frames := 1, cells := 1, slots := 22, locals := 30 }
theorem qdJ7_copyOf_6403c : yJ7_copyOf_6403c.cls = RJ7 ∧ yJ7_copyOf_6403c.cls ≠ "java/lang/invoke/MethodHandle" ∧ yJ7_copyOf_6403c.cls ≠ "java/lang/invoke/VarHandle" ∧ (parseMethodDescriptor yJ7_copyOf_6403c.desc).map (fun d => d.parameters.length) = some 3 := by decide +kernel
set_option maxHeartbeats 4000000 in
set_option maxRecDepth 100000 in
theorem c_J7_copyOf_6403c {l : Launch} {G : gT} {A : Nat → Prop} {H0 : Heap} {zA : Nat × Nat} {ea n N : Nat} {g : Nat → Option Nat} (hP : va_P (gD G) vC [(ea, eQ G n g)] H0) (hD : va_D A [(ea, eQ G n g)]) (hA : ∀ q, H0.size ≤ q → A q) {ci : Nat} (hci : ci = 0 ∨ ci = 2) (hel : ∀ k y, k < n → g k = some y → (∃ fs, pt G y (.inr (ci, fs)) H0) ∧ ¬ A y) (hnN : n ≤ N) (hN22 : N ≤ 22) : WzA G zA l yJ7_copyOf_6403c wsJ7_copyOf_6403c rmJ7_copyOf_6403c [.ref ea, .int (nI N), .ref zA.2] H0 A 1 22 (fun r H1 => ∃ g1, va_P (gD G) vC [(ea, eQ G n g), (r, eQ G N g1)] H1 ∧ va_D A [(ea, eQ G n g), (r, eQ G N g1)] ∧ ∀ k, k < n → g1 k = g k) := by
  refine x_headz (bytes := cJ7_copyOf_6403c) (maxL := 4) (ret := (some (.array (.object "java/lang/Object")))) (by decide) rfl (Nat.le_of_ble_eq_true rfl) ?_
  intro p e s m below meth c ls hx hb hml hown hts hr hlk hnm hK hs0 hl Q hQ hZ
  have hl : lv_has ls 4 [(0, .ref ea), (1, .int (nI N)), (2, .ref zA.2)] := hl
  have hC : CallFix p m c cJ7_copyOf_6403c 4 s [.ref ea, .int (nI N), .ref zA.2].toArray wsJ7_copyOf_6403c RJ7 := ⟨hx, hb, hml, hown, hts⟩
  have k_cl110 := hts (.classLink RJ7 110 "[Ljava/lang/Object;") (by decide +kernel)
  have k_cl2 := hts (.classLink RJ7 2 "java/lang/Object") (by decide +kernel)
  have k_m304 := hts (.methodLink RJ7 304 Lib.Math.min.name) (by decide +kernel)
  have k_msmin := hts (.static Lib.Math.min.name) (by decide +kernel)
  have k_mi := hts (.initialized "java/lang/Math") (by decide +kernel)
  have k_mcmin := hts (.code Lib.Math.min.name Lib.Math.min.code 2 (some .int)) (by decide +kernel)
  have k_m150 := hts (.methodLink RJ7 150 arraycopyName) (by decide +kernel)
  have k_acn := hts (.native arraycopyName) (by decide +kernel)
  have k_acs := hts (.static arraycopyName) (by decide +kernel)
  have k_aci := hts (.initialized "java/lang/System") (by decide +kernel)
  have hN := hZ.nn
  have hS : va_S A H0 H0 [] := va_S.rf
  refine lv_aload_n hx hb dJ7_copyOf_6403c_0 rfl (lv_at hl 2 rfl) ?_
  refine va_ldcM hx hb hown k_cl110 hZ.2.2.1.2.1 dJ7_copyOf_6403c_1 ?_
  refine lv_acmp_ne (rx := some zA.2) (ry := some zA.2) (tgt := 13) hx hb dJ7_copyOf_6403c_3 (by decide) (fun c9 => ?_) (fun c9 => ?_)
  · exact absurd rfl c9
  refine lv_iload_n hx hb dJ7_copyOf_6403c_6 rfl (lv_at hl 1 rfl) ?_
  refine x_newQ (N := N) hx hb hown k_cl2 hZ.2.2.1.1 hK hP hD hS hA (by omega) (by omega) (Nat.le_of_ble_eq_true rfl) (by show 0 + N ≤ 22; omega) dJ7_copyOf_6403c_7 (fun q_1 H hP hD hS => ?_)
  have hP : va_P (gD G) vC [(ea, eQ G n g), (q_1, eQ G N (fun _ => none))] H := hP
  have hD : va_D A [(ea, eQ G n g), (q_1, eQ G N (fun _ => none))] := hD
  refine lv_goto (tgt := 24) hx hb dJ7_copyOf_6403c_10 (by decide) ?_
  refine lv_astore_n (lv' := [(3, .ref q_1), (0, .ref ea), (1, .int (nI N)), (2, .ref zA.2)]) hx hb dJ7_copyOf_6403c_24 rfl hl (by decide) rfl (fun ls hl => ?_)
  refine lv_aload_n hx hb dJ7_copyOf_6403c_25 rfl (lv_at hl 1 rfl) ?_
  refine lv_iconst (v := nI 0) hx hb dJ7_copyOf_6403c_26 (by decide +kernel) ?_
  refine lv_aload_n hx hb dJ7_copyOf_6403c_27 rfl (lv_at hl 0 rfl) ?_
  refine lv_iconst (v := nI 0) hx hb dJ7_copyOf_6403c_28 (by decide +kernel) ?_
  refine lv_aload_n hx hb dJ7_copyOf_6403c_29 rfl (lv_at hl 1 rfl) ?_
  refine x_alen (t0 := 1) hx hb hK (hP 0 _ rfl) rfl dJ7_copyOf_6403c_30 ?_
  refine lv_iload_n hx hb dJ7_copyOf_6403c_31 rfl (lv_at hl 2 rfl) ?_
  refine va_mmin hx hb (hml.trans hl.1.symm) hown k_m304 k_msmin k_mi k_mcmin (by decide) (Nat.le_of_ble_eq_true rfl) (Nat.le_of_ble_eq_true rfl) (by show 0 + N ≤ 22; omega) dJ7_copyOf_6403c_32 ?_
  refine W.eq (g2 := F0 m 35 ls [.int (mn (nI n) (nI N)), .int (nI 0), .ref q_1, .int (nI 0), .ref ea]) rfl ?_
  refine W.eq (g2 := F0 m 35 ls [.int (nI n), .int (nI 0), .ref q_1, .int (nI 0), .ref ea]) (by rw [show mn (nI n) (nI N) = nI n from mn_nat (by omega) (by omega) hnN]) ?_
  obtain ⟨q8, hq8, hca⟩ := hZ.cas hci
  refine x_copyQ hx hb (hml.trans hl.1.symm) hown k_m150 k_acn k_acs k_aci hK hP hD hS 0 1 rfl rfl (by omega) (by omega) (by omega) (by omega) (by omega) hq8 hca (fun k hk y hy => (by rw [Nat.zero_add] at hy; obtain ⟨⟨fs, h1⟩, h2⟩ := hel k y hk hy; exact ⟨fs, va_at.kept h1 (hS.2.1 _ h1.lt h2)⟩)) (Nat.le_of_ble_eq_true rfl) (Nat.le_of_ble_eq_true (by decide +kernel)) dJ7_copyOf_6403c_35 (fun H locs hP hD hS => ?_)
  have hP : va_P (gD G) vC [(ea, eQ G n g), (q_1, eQ G N (va_cpy g (fun _ => none) 0 0 n))] H := hP
  have hD : va_D A [(ea, eQ G n g), (q_1, eQ G N (va_cpy g (fun _ => none) 0 0 n))] := hD
  refine lv_aload_n hx hb dJ7_copyOf_6403c_38 rfl (lv_at hl 0 rfl) ?_
  refine W.widen (k := 1) (n := 22) (Nat.le_refl _) (by show 0 + N ≤ 22; omega) ?_
  exact x_aret hQ hx hb hr (Or.inr ⟨_, rfl⟩) hlk hS.2.2 dJ7_copyOf_6403c_39 ⟨hS.fr, _, hP, hD, fun k hk => (pk_cpy_in (Nat.zero_le _) (by omega)).trans (by rw [Nat.zero_add, Nat.sub_zero])⟩
