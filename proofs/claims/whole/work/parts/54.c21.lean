abbrev rmX3_addHalo : Room := { frames := 7, cells := 2, slots := 26, locals := 161 }
theorem qdX3_addHalo : yX3_addHalo.cls = RX3 ∧ yX3_addHalo.cls ≠ "java/lang/invoke/MethodHandle" ∧ yX3_addHalo.cls ≠ "java/lang/invoke/VarHandle" ∧ (parseMethodDescriptor yX3_addHalo.desc).map (fun d => d.parameters.length) = some 4 := by decide +kernel
set_option maxHeartbeats 4000000 in
set_option maxRecDepth 100000 in
theorem c_X3_addHalo {l : Launch} {G : gT} {A : Nat → Prop} {H0 : Heap} {zA : Nat × Nat} {ro : Nat → Prop} {n hn : Nat} {L T : Nat → Int32} {o : List Nat} {sa fa ta ha : Nat → Nat} {F U : Nat → Nat → Int32} {aS aB aH xa rb0 ms9 : Nat} {x1 x2 x3 x4 : Int32} (hxo : pt G xa (.inr (3, [.ref aS, .ref aB, .ref aH, .ref rb0, .ref ms9])) H0) (hcr : crO G ro n hn L T o sa fa ta ha F U aS aB aH H0) (hg : OK n hn L T) (ho : IsOrd (fun s => gL L s 0) n o) {XH : Nat → Prop} (hzH : alZ G zA.1 XH aH ha hn H0) (hXH : ∀ q, XH q → A q) (hXl : ∀ q, XH q → q < H0.size) (hA : ∀ q, H0.size ≤ q → A q) (hhX : ∀ j, j < hn → ¬ XH (ha j)) (hxX : ¬ XH xa) (hst : l.stackTraces = false) : VzI G zA l yX3_addHalo wsX3_addHalo rmX3_addHalo [.ref xa, .int x1, .int x2, .int x3, .int x4] H0 A 2 26 [eIA, eIS] (k2 (inR (nI 0) (nI 100000) x1 && inR (nI 0) (nI 999) x2 && inR (nI 1) (nI 99) x3 && inR (-1) (nI 1) x4) (decide (¬ hn = 16))) (fun r H1 => r = nI hn ∧ ∃ h9 N1 : Nat, (H0.size ≤ h9 ∧ h9 < N1) ∧ pt G h9 (.inr (0, [.int x1, .int x2, .int x3, .int x4])) H1 ∧ alZ G zA.1 (fun q => XH q ∨ N1 ≤ q) aH (fun k => if k < hn then ha k else h9) (hn + 1) H1) := by
  refine x_headx (bytes := cX3_addHalo) (maxL := 5) (ret := (some .int)) (by decide) rfl (Nat.le_of_ble_eq_true rfl) ?_
  intro p e s m below meth c ls hx hb hml hown hts hr hlk hnm hK hs0 hl Q hQ hZ hxt
  have hl : lv_has ls 5 [(0, .ref xa), (1, .int x1), (2, .int x2), (3, .int x3), (4, .int x4)] := hl
  have hC : CallFix p m c cX3_addHalo 5 s [.ref xa, .int x1, .int x2, .int x3, .int x4].toArray wsX3_addHalo RX3 := ⟨hx, hb, hml, hown, hts⟩
  have k_c90 := hts (.constant RX3 90 (100000)) (by decide +kernel)
  have k_cl37 := hts (.classLink RX3 37 eIA) (by decide +kernel)
  have k_inieIA := hts (.initialized eIA) (by decide +kernel)
  have at_eIA : ∀ w ∈ (vx_at0 RX3 39 eIA xN).filter goodWord, w ∈ wsX3_addHalo := by decide +kernel
  have k_f19 := hts (.fieldLink RX3 19 "SundogLine" "halos" "Ljava/util/ArrayList;") (by decide +kernel)
  have in_X3 : ∀ w ∈ u_ws RX3 TX3 5, w ∈ wsX3_addHalo := by decide +kernel
  have k_cl102 := hts (.classLink RX3 102 RX0) (by decide +kernel)
  have k_mkX0 := hts (.instantiable RX0 4) (by decide +kernel)
  have k_nX0 := hts (.initialized RX0) (by decide +kernel)
  have in_X0 : ∀ w ∈ u_ws RX0 TX0 4, w ∈ wsX3_addHalo := by decide +kernel
  have k_m104 := hts (.methodLink RX3 104 yX0_init) (by decide +kernel)
  have k_iX0_init := hts (.instanceMethod yX0_init) (by decide +kernel)
  have k_cl48 := hts (.classLink RX3 48 eIS) (by decide +kernel)
  have k_inieIS := hts (.initialized eIS) (by decide +kernel)
  have at_eIS : ∀ w ∈ (vx_at0 RX3 50 eIS xN).filter goodWord, w ∈ wsX3_addHalo := by decide +kernel
  have hN := hZ.nn
  have hS : va_S A H0 H0 [] := va_S.rf
  have hn12 := hg.n
  have hh16 := hg.hn
  refine lv_iload_n hx hb dX3_addHalo_0 rfl (lv_at hl 1 rfl) ?_
  refine lv_iconst (v := nI 0) hx hb dX3_addHalo_1 (by decide +kernel) ?_
  refine lv_ldc (v := nI 100000) hx hb hown k_c90 dX3_addHalo_2 ?_
  refine x_rd (va_runS (As := [.int x1, .int (nI 0), .int (nI 100000)]) (rest := []) hC (c_X3_outside) (cwS 3 hts gX3_addHalo_X3_outside rfl rfl rfl qdX3_outside ⟨Nat.le_of_ble_eq_true rfl, Nat.le_of_ble_eq_true rfl⟩) (x_preS hK) rfl rfl hl.1 rfl (lv_room (Nat.le_of_ble_eq_true rfl)) dX3_addHalo_4 ⟨Nat.le_of_ble_eq_true rfl, Nat.le_of_ble_eq_true rfl⟩) ?_
  refine x_if_neB (tgt := 41) hx hb dX3_addHalo_7 (by decide) (fun c_1 => ?_) (fun c_1 => ?_)
  · have hkk9 : k2 (inR (nI 0) (nI 100000) x1 && inR (nI 0) (nI 999) x2 && inR (nI 1) (nI 99) x3 && inR (-1) (nI 1) x4) (decide (¬ hn = 16)) = 1 := by simp only [k1, k2, k3, Bool.and_true, Bool.true_and, Bool.and_false, Bool.false_and, Bool.not_true, Bool.not_false, bnt c_1] <;> rfl
    exact x_throw (cls := eIA) hQ hx hb hst hs0 hZ hS rfl hown (Or.inr (Or.inl rfl)) (by decide) k_cl37 k_inieIA (fun w hw => hts w (at_eIA w hw)) xb_eIA xg_eIA (hl.1.trans hml.symm) dX3_addHalo_41 dX3_addHalo_44 dX3_addHalo_45 dX3_addHalo_48 hxt (Nat.le_of_ble_eq_true rfl) (Nat.le_of_ble_eq_true rfl) (Nat.le_of_ble_eq_true rfl) (Nat.le_of_ble_eq_true rfl) hlk hS.2.2 (by decide) (by decide) (by rw [hkk9]; exact ⟨by decide, rfl⟩)
  · refine lv_iload_n hx hb dX3_addHalo_10 rfl (lv_at hl 2 rfl) ?_
    refine lv_iconst (v := nI 0) hx hb dX3_addHalo_11 (by decide +kernel) ?_
    refine lv_sipush (v := nI 999) hx hb dX3_addHalo_12 (by decide +kernel) ?_
    refine x_rd (va_runS (As := [.int x2, .int (nI 0), .int (nI 999)]) (rest := []) hC (c_X3_outside) (cwS 3 hts gX3_addHalo_X3_outside rfl rfl rfl qdX3_outside ⟨Nat.le_of_ble_eq_true rfl, Nat.le_of_ble_eq_true rfl⟩) (x_preS hK) rfl rfl hl.1 rfl (lv_room (Nat.le_of_ble_eq_true rfl)) dX3_addHalo_15 ⟨Nat.le_of_ble_eq_true rfl, Nat.le_of_ble_eq_true rfl⟩) ?_
    refine x_if_neB (tgt := 41) hx hb dX3_addHalo_18 (by decide) (fun c_2 => ?_) (fun c_2 => ?_)
    · have hkk9 : k2 (inR (nI 0) (nI 100000) x1 && inR (nI 0) (nI 999) x2 && inR (nI 1) (nI 99) x3 && inR (-1) (nI 1) x4) (decide (¬ hn = 16)) = 1 := by simp only [k1, k2, k3, Bool.and_true, Bool.true_and, Bool.and_false, Bool.false_and, Bool.not_true, Bool.not_false, bnf c_1, bnt c_2] <;> rfl
      exact x_throw (cls := eIA) hQ hx hb hst hs0 hZ hS rfl hown (Or.inr (Or.inl rfl)) (by decide) k_cl37 k_inieIA (fun w hw => hts w (at_eIA w hw)) xb_eIA xg_eIA (hl.1.trans hml.symm) dX3_addHalo_41 dX3_addHalo_44 dX3_addHalo_45 dX3_addHalo_48 hxt (Nat.le_of_ble_eq_true rfl) (Nat.le_of_ble_eq_true rfl) (Nat.le_of_ble_eq_true rfl) (Nat.le_of_ble_eq_true rfl) hlk hS.2.2 (by decide) (by decide) (by rw [hkk9]; exact ⟨by decide, rfl⟩)
    · refine lv_iload_n hx hb dX3_addHalo_21 rfl (lv_at hl 3 rfl) ?_
      refine lv_iconst (v := nI 1) hx hb dX3_addHalo_22 (by decide +kernel) ?_
      refine lv_bipush (v := nI 99) hx hb dX3_addHalo_23 (by decide +kernel) ?_
      refine x_rd (va_runS (As := [.int x3, .int (nI 1), .int (nI 99)]) (rest := []) hC (c_X3_outside) (cwS 3 hts gX3_addHalo_X3_outside rfl rfl rfl qdX3_outside ⟨Nat.le_of_ble_eq_true rfl, Nat.le_of_ble_eq_true rfl⟩) (x_preS hK) rfl rfl hl.1 rfl (lv_room (Nat.le_of_ble_eq_true rfl)) dX3_addHalo_25 ⟨Nat.le_of_ble_eq_true rfl, Nat.le_of_ble_eq_true rfl⟩) ?_
      refine x_if_neB (tgt := 41) hx hb dX3_addHalo_28 (by decide) (fun c_3 => ?_) (fun c_3 => ?_)
      · have hkk9 : k2 (inR (nI 0) (nI 100000) x1 && inR (nI 0) (nI 999) x2 && inR (nI 1) (nI 99) x3 && inR (-1) (nI 1) x4) (decide (¬ hn = 16)) = 1 := by simp only [k1, k2, k3, Bool.and_true, Bool.true_and, Bool.and_false, Bool.false_and, Bool.not_true, Bool.not_false, bnf c_1, bnf c_2, bnt c_3] <;> rfl
        exact x_throw (cls := eIA) hQ hx hb hst hs0 hZ hS rfl hown (Or.inr (Or.inl rfl)) (by decide) k_cl37 k_inieIA (fun w hw => hts w (at_eIA w hw)) xb_eIA xg_eIA (hl.1.trans hml.symm) dX3_addHalo_41 dX3_addHalo_44 dX3_addHalo_45 dX3_addHalo_48 hxt (Nat.le_of_ble_eq_true rfl) (Nat.le_of_ble_eq_true rfl) (Nat.le_of_ble_eq_true rfl) (Nat.le_of_ble_eq_true rfl) hlk hS.2.2 (by decide) (by decide) (by rw [hkk9]; exact ⟨by decide, rfl⟩)
      · refine lv_iload hx hb dX3_addHalo_31 (lv_at hl 4 rfl) ?_
        refine lv_iconst (v := (-1)) hx hb dX3_addHalo_33 (by decide +kernel) ?_
        refine lv_iconst (v := nI 1) hx hb dX3_addHalo_34 (by decide +kernel) ?_
        refine x_rd (va_runS (As := [.int x4, .int ((-1)), .int (nI 1)]) (rest := []) hC (c_X3_outside) (cwS 3 hts gX3_addHalo_X3_outside rfl rfl rfl qdX3_outside ⟨Nat.le_of_ble_eq_true rfl, Nat.le_of_ble_eq_true rfl⟩) (x_preS hK) rfl rfl hl.1 rfl (lv_room (Nat.le_of_ble_eq_true rfl)) dX3_addHalo_35 ⟨Nat.le_of_ble_eq_true rfl, Nat.le_of_ble_eq_true rfl⟩) ?_
        refine x_if_eqB (tgt := 49) hx hb dX3_addHalo_38 (by decide) (fun c_4 => ?_) (fun c_4 => ?_)
        · refine lv_aload_n hx hb dX3_addHalo_49 rfl (lv_at hl 0 rfl) ?_
          refine x_get (T := TX3) (N := 5) (v := .ref aH) hx hb hts in_X3 hown hK (hxo) rfl 2 (by decide) k_f19 (fun _ h9 => h9) (rfl) dX3_addHalo_50 ?_
          refine x_rd (va_runV (As := []) (rest := []) hC (c_size (hcr.lH)) (cwV 0 hts gX3_addHalo_Jx4a65c_size_8abf5 rfl rfl rfl qdJx4a65c_size_8abf5 ⟨Nat.le_of_ble_eq_true rfl, Nat.le_of_ble_eq_true rfl⟩) (x_preV hK (alR_recv hK (hcr.lH))) rfl rfl hl.1 rfl (lv_room (Nat.le_of_ble_eq_true rfl)) dX3_addHalo_53 ⟨Nat.le_of_ble_eq_true rfl, Nat.le_of_ble_eq_true rfl⟩) ?_
          refine lv_bipush (v := nI 16) hx hb dX3_addHalo_56 (by decide +kernel) ?_
          refine x_icmp_lt (tgt := 69) hx hb (by omega) (by omega) dX3_addHalo_58 (by decide) (fun c_5 => ?_) (fun c_5 => ?_)
          · have hAo := hA
            obtain ⟨A, eA⟩ : ∃ A : Nat → Prop, A = fun q => H0.size ≤ q := ⟨_, rfl⟩
            have hA : ∀ q, H0.size ≤ q → A q := fun q h9 => ge_yes eA h9
            have hS : va_S A H0 H0 [] := va_S.rf
            have hP : va_P (gD G) vC [] H0 := fun k q h9 => by simp at h9
            have hD : va_D A [] := ⟨fun i j p q h9 => by simp at h9, fun k q h9 => by simp at h9⟩
            refine lv_aload_n hx hb dX3_addHalo_69 rfl (lv_at hl 0 rfl) ?_
            refine x_get (T := TX3) (N := 5) (v := .ref aH) hx hb hts in_X3 hown hK (hxo) rfl 2 (by decide) k_f19 (fun _ h9 => h9) (rfl) dX3_addHalo_70 ?_
            refine va_new (D := gD G) (cl := vC) (ci := 0) (fs := [.int 0, .int 0, .int 0, .int 0]) (C := RX0) (T := TX0) (N := 4) hx hb hts in_X0 tyX0 tyX0_ok hown k_cl102 k_mkX0 k_nX0 hK hP hD hS hA rfl (fun j hj => by rcases (show j = 0 ∨ j = 1 ∨ j = 2 ∨ j = 3 by omega) with rfl | rfl | rfl | rfl <;> rfl) (Nat.le_of_ble_eq_true rfl) (Nat.le_of_ble_eq_true rfl) dX3_addHalo_73 (fun q_6 H hP hD hS => ?_)
            have hP : va_P (gD G) vC [(q_6, .inr (0, [.int 0, .int 0, .int 0, .int 0]))] H := hP
            have hD : va_D A [(q_6, .inr (0, [.int 0, .int 0, .int 0, .int 0]))] := hD
            refine lv_dup hx hb dX3_addHalo_76 rfl ?_
            refine lv_iload_n hx hb dX3_addHalo_77 rfl (lv_at hl 1 rfl) ?_
            refine lv_iload_n hx hb dX3_addHalo_78 rfl (lv_at hl 2 rfl) ?_
            refine lv_iload_n hx hb dX3_addHalo_79 rfl (lv_at hl 3 rfl) ?_
            refine lv_iload hx hb dX3_addHalo_80 (lv_at hl 4 rfl) ?_
            refine x_runv (va_runI (As := [.int x1, .int x2, .int x3, .int x4]) (rest := [.ref q_6, .ref aH]) hC (c_X0_init (A := A) hP hD) (cwI 4 hts gX3_addHalo_X0_init rfl rfl rfl k_nX0 k_m104 k_iX0_init rfl qdX0_init ⟨Nat.le_of_ble_eq_true rfl, Nat.le_of_ble_eq_true rfl⟩) (x_preS hK) rfl rfl hl.1 rfl (lv_room (Nat.le_of_ble_eq_true rfl)) dX3_addHalo_82 ⟨Nat.le_of_ble_eq_true rfl, Nat.le_of_ble_eq_true rfl⟩) hS (fun _ h => h) (fun H locs hfr hΦ hS => ?_)
            have hP : va_P (gD G) vC [(q_6, .inr (0, [.int x1, .int x2, .int x3, .int x4]))] H := hΦ
            have hD : va_D A [(q_6, .inr (0, [.int x1, .int x2, .int x3, .int x4]))] := hD.same rfl
            have hSf := hS
            have hS := va_S.wk hS (fun q h9 => hAo q (yes_ge eA h9))
            have hlo := fun (k : Nat) (q : Nat × va_E) hk => yes_ge eA (hD.2 k q hk)
            obtain ⟨N1, eN1⟩ : ∃ N1 : Nat, N1 = H.size := ⟨_, rfl⟩
            have hN1 : H0.size ≤ N1 := by rw [eN1]; exact hSf.1
            have hk0 : ∀ q, q < H0.size → H[q]? = H0[q]? := fun q hq => hSf.2.1 q hq (lt_no eA hq)
            have hzH1 : alZ G zA.1 XH aH ha hn H := hzH.mv (fun q hq _ => hk0 q hq) (fun q _ hx => hx) (fun _ _ => rfl)
            have hxo1 := va_at.kept hxo (hk0 _ (va_at.lt hxo))
            have hq9 : H0.size ≤ q_6 ∧ q_6 < N1 := ⟨hlo 0 _ rfl, by rw [eN1]; exact va_at.lt (hP 0 _ rfl)⟩
            have hsub : ∀ q, (XH q ∨ N1 ≤ q) → _ := fun q h9 => h9.elim (hXH q) (fun g => hAo q (Nat.le_trans hN1 g))
            refine x_runi (va_runV (As := [.ref q_6]) (rest := []) hC (c_addZ (A := fun q => XH q ∨ N1 ≤ q) (ci := 0) hzH1 (fun q h9 => Or.inl h9) (fun q h9 => Or.inr (by rw [eN1]; exact h9)) (fun h9 => hZ.1.2.2 (hsub _ h9)) (Or.inl rfl) (by omega) (fun k hk => ⟨⟨_, va_at.kept (hcr.hal hk) (hk0 _ (va_at.lt (hcr.hal hk)))⟩, fun h9 => h9.elim (hhX k hk) (fun g => by have := va_at.lt (hcr.hal hk); omega)⟩) (hP 0 _ rfl) (fun h9 => h9.elim (fun g => by have := hXl _ g; omega) (fun g => by omega))) (cwV 1 hts gX3_addHalo_Jx4a65c_add_9ea2d rfl rfl rfl qdJx4a65c_add_9ea2d ⟨Nat.le_of_ble_eq_true rfl, Nat.le_of_ble_eq_true rfl⟩) (x_preVz hK ((hZ.at hS).narrow hsub) (alR_recv hK (hzH1.x.r))) rfl rfl hl.1 rfl (lv_room (Nat.le_of_ble_eq_true rfl)) dX3_addHalo_85 ⟨Nat.le_of_ble_eq_true rfl, Nat.le_of_ble_eq_true rfl⟩) hS hsub (fun r1 H locs hfr1 hΦ1 hS => ?_)
            have hk1 : ∀ q, q < N1 → ¬ XH q → _ := fun q hq hx => hfr1.2 q (by omega) (fun h9 => h9.elim hx (fun g => by omega))
            have hxo2 := va_at.kept hxo1 (hk1 _ (by have := va_at.lt hxo1; omega) hxX)
            have hh9 := va_at.kept (hP 0 _ rfl) (hk1 _ hq9.2 (fun g => by have := hXl _ g; omega))
            refine lv_pop hx hb dX3_addHalo_88 rfl ?_
            refine lv_aload_n hx hb dX3_addHalo_89 rfl (lv_at hl 0 rfl) ?_
            refine x_get (T := TX3) (N := 5) (v := .ref aH) hx hb hts in_X3 hown hK (hxo2) rfl 2 (by decide) k_f19 (fun _ h9 => h9) (rfl) dX3_addHalo_90 ?_
            refine x_rd (va_runV (As := []) (rest := []) hC (c_size (hΦ1.x.r)) (cwV 0 hts gX3_addHalo_Jx4a65c_size_8abf5 rfl rfl rfl qdJx4a65c_size_8abf5 ⟨Nat.le_of_ble_eq_true rfl, Nat.le_of_ble_eq_true rfl⟩) (x_preV hK (alR_recv hK (hΦ1.x.r))) rfl rfl hl.1 rfl (lv_room (Nat.le_of_ble_eq_true rfl)) dX3_addHalo_93 ⟨Nat.le_of_ble_eq_true rfl, Nat.le_of_ble_eq_true rfl⟩) ?_
            refine lv_iconst (v := nI 1) hx hb dX3_addHalo_96 (by decide +kernel) ?_
            refine x_isubN hx hb dX3_addHalo_97 (by omega) ?_
            have hkk9 : k2 (inR (nI 0) (nI 100000) x1 && inR (nI 0) (nI 999) x2 && inR (nI 1) (nI 99) x3 && inR (-1) (nI 1) x4) (decide (¬ hn = 16)) = 0 := by simp only [k1, k2, k3, Bool.and_true, Bool.true_and, Bool.and_false, Bool.false_and, Bool.not_true, Bool.not_false, bnf c_1, bnf c_2, bnf c_3, bnf c_4, decide_eq_true (show ¬ hn = 16 by omega)] <;> rfl
            refine W.widen (k := 2) (n := 26) (Nat.le_of_ble_eq_true rfl) (Nat.le_of_ble_eq_true rfl) ?_
            refine x_vxret hQ ?_
            exact x_iret rfl hx hb hr rfl hlk hS.2.2 dX3_addHalo_98 ⟨hS.fr, hkk9, ⟨by rw [Nat.add_sub_cancel], q_6, N1, hq9, hh9, hΦ1.mv (fun _ _ _ => rfl) (fun q _ hx => hx) (fun _ _ => rfl)⟩⟩
          · have hkk9 : k2 (inR (nI 0) (nI 100000) x1 && inR (nI 0) (nI 999) x2 && inR (nI 1) (nI 99) x3 && inR (-1) (nI 1) x4) (decide (¬ hn = 16)) = 2 := by simp only [k1, k2, k3, Bool.and_true, Bool.true_and, Bool.and_false, Bool.false_and, Bool.not_true, Bool.not_false, bnf c_1, bnf c_2, bnf c_3, bnf c_4, decide_eq_false (show ¬ ¬ hn = 16 by omega)] <;> rfl
            exact x_throw (cls := eIS) hQ hx hb hst hs0 hZ hS rfl hown (Or.inr (Or.inr rfl)) (by decide) k_cl48 k_inieIS (fun w hw => hts w (at_eIS w hw)) xb_eIS xg_eIS (hl.1.trans hml.symm) dX3_addHalo_61 dX3_addHalo_64 dX3_addHalo_65 dX3_addHalo_68 hxt (Nat.le_of_ble_eq_true rfl) (Nat.le_of_ble_eq_true rfl) (Nat.le_of_ble_eq_true rfl) (Nat.le_of_ble_eq_true rfl) hlk hS.2.2 (by decide) (by decide) (by rw [hkk9]; exact ⟨by decide, rfl⟩)
        · have hkk9 : k2 (inR (nI 0) (nI 100000) x1 && inR (nI 0) (nI 999) x2 && inR (nI 1) (nI 99) x3 && inR (-1) (nI 1) x4) (decide (¬ hn = 16)) = 1 := by simp only [k1, k2, k3, Bool.and_true, Bool.true_and, Bool.and_false, Bool.false_and, Bool.not_true, Bool.not_false, bnf c_1, bnf c_2, bnf c_3, bnt c_4] <;> rfl
          exact x_throw (cls := eIA) hQ hx hb hst hs0 hZ hS rfl hown (Or.inr (Or.inl rfl)) (by decide) k_cl37 k_inieIA (fun w hw => hts w (at_eIA w hw)) xb_eIA xg_eIA (hl.1.trans hml.symm) dX3_addHalo_41 dX3_addHalo_44 dX3_addHalo_45 dX3_addHalo_48 hxt (Nat.le_of_ble_eq_true rfl) (Nat.le_of_ble_eq_true rfl) (Nat.le_of_ble_eq_true rfl) (Nat.le_of_ble_eq_true rfl) hlk hS.2.2 (by decide) (by decide) (by rw [hkk9]; exact ⟨by decide, rfl⟩)
set_option maxHeartbeats 4000000 in
set_option maxRecDepth 100000 in
theorem c_stBefore {l : Launch} {G : gT} {H : Heap} {n hn : Nat} {L T : Nat → Int32} {o : List Nat} {sa fa ta : Nat → Nat} {F U : Nat → Nat → Int32} {aS aB aH xa rb0 ms9 : Nat} (hxo : pt G xa (.inr (3, [.ref aS, .ref aB, .ref aH, .ref rb0, .ref ms9])) H) (hlB : alR G aB (fun k => sa (o.getD k 0)) n H) (hst : ∀ i, i < n → stP G L sa fa ta F U i H) (hg : OK n hn L T) (ho : IsOrd (fun s => gL L s 0) n o) {x : Int32} : Rd G l yX3_stationsBefore wsX3_stationsBefore rmX3_stationsBefore [.ref xa, .int x] H (.int (nI (insP L o n x))) := by
  refine x_head (bytes := cX3_stationsBefore) (maxL := 4) (ret := (some .int)) (by decide) rfl (Nat.le_of_ble_eq_true rfl) ?_
  intro p e s m below meth c ls hx hb hml hown hts hr hlk hnm hK hs0 hl Q hQ
  have hl : lv_has ls 4 [(0, .ref xa), (1, .int x)] := hl
  have hC : CallFix p m c cX3_stationsBefore 4 s [.ref xa, .int x].toArray wsX3_stationsBefore RX3 := ⟨hx, hb, hml, hown, hts⟩
  have k_f16 := hts (.fieldLink RX3 16 "SundogLine" "byPlace" "Ljava/util/ArrayList;") (by decide +kernel)
  have in_X3 : ∀ w ∈ u_ws RX3 TX3 5, w ∈ wsX3_stationsBefore := by decide +kernel
  have k_cl51 := hts (.classLink RX3 51 "SundogLine$Station") (by decide +kernel)
  have k_f108 := hts (.fieldLink RX3 108 "SundogLine$Station" "place" "I") (by decide +kernel)
  have in_X2 : ∀ w ∈ u_ws RX2 TX2 8, w ∈ wsX3_stationsBefore := by decide +kernel
  have hn12 := hg.n
  refine lv_iconst (v := nI 0) hx hb dX3_stationsBefore_0 (by decide +kernel) ?_
  refine lv_istore_n (lv' := [(2, .int (nI 0)), (0, .ref xa), (1, .int x)]) hx hb dX3_stationsBefore_1 rfl hl (by decide) rfl (fun ls hl => ?_)
  refine lv_iconst (v := nI 0) hx hb dX3_stationsBefore_2 (by decide +kernel) ?_
  refine lv_istore_n (lv' := [(3, .int (nI 0)), (2, .int (nI 0)), (0, .ref xa), (1, .int x)]) hx hb dX3_stationsBefore_3 rfl hl (by decide) rfl (fun ls hl => ?_)
  have loop_1 : ∀ (fu : Nat) (k : Nat)  (ls : Array Slot), n - k < fu → (k ≤ n) → lv_has ls 4 [(0, .ref xa), (1, .int x), (2, .int (nI (cnt (fun k => decide (gL L (o.getD k 0) 0 < x)) k))), (3, .int (nI k))] → W p l e rmX3_stationsBefore s m [.ref xa, .int x].toArray below meth c H [] 0 0 Q (F0 m 4 ls []) := by
    intro fu
    induction fu with
    | zero => intro k ls hms hk hl; exact absurd hms (Nat.not_lt_zero _)
    | succ fu ih_1 =>
      intro k ls hms hk hl
      refine lv_iload_n hx hb dX3_stationsBefore_4 rfl (lv_at hl 3 rfl) ?_
      refine lv_aload_n hx hb dX3_stationsBefore_5 rfl (lv_at hl 0 rfl) ?_
      refine x_get (T := TX3) (N := 5) (v := .ref aB) hx hb hts in_X3 hown hK (hxo) rfl 1 (by decide) k_f16 (fun _ h9 => h9) (rfl) dX3_stationsBefore_6 ?_
      refine x_rd (va_runV (As := []) (rest := [.int (nI k)]) hC (c_size (hlB)) (cwV 0 hts gX3_stationsBefore_Jx4a65c_size_8abf5 rfl rfl rfl qdJx4a65c_size_8abf5 ⟨Nat.le_of_ble_eq_true rfl, Nat.le_of_ble_eq_true rfl⟩) (x_preV hK (alR_recv hK (hlB))) rfl rfl hl.1 rfl (lv_room (Nat.le_of_ble_eq_true rfl)) dX3_stationsBefore_9 ⟨Nat.le_of_ble_eq_true rfl, Nat.le_of_ble_eq_true rfl⟩) ?_
      refine x_icmp_ge (tgt := 42) hx hb (by omega) (by omega) dX3_stationsBefore_12 (by decide) (fun c_2 => ?_) (fun c_2 => ?_)
      · refine lv_iload_n hx hb dX3_stationsBefore_42 rfl (lv_at hl 2 rfl) ?_
        exact x_rdi hQ hx hb hr rfl hlk (by rw [show k = n by omega]; rfl) dX3_stationsBefore_43
      · refine lv_aload_n hx hb dX3_stationsBefore_15 rfl (lv_at hl 0 rfl) ?_
        refine x_get (T := TX3) (N := 5) (v := .ref aB) hx hb hts in_X3 hown hK (hxo) rfl 1 (by decide) k_f16 (fun _ h9 => h9) (rfl) dX3_stationsBefore_16 ?_
        refine lv_iload_n hx hb dX3_stationsBefore_19 rfl (lv_at hl 3 rfl) ?_
        refine x_rd (va_runV (As := [.int (nI k)]) (rest := []) hC (c_get (hlB) (by omega)) (cwV 1 hts gX3_stationsBefore_Jx4a65c_get_915e3 rfl rfl rfl qdJx4a65c_get_915e3 ⟨Nat.le_of_ble_eq_true rfl, Nat.le_of_ble_eq_true rfl⟩) (x_preV hK (alR_recv hK (hlB))) rfl rfl hl.1 rfl (lv_room (Nat.le_of_ble_eq_true rfl)) dX3_stationsBefore_20 ⟨Nat.le_of_ble_eq_true rfl, Nat.le_of_ble_eq_true rfl⟩) ?_
        have hok := (ho.gt (show k < n by omega)).2
        refine x_cast hx hb hown k_cl51 hK ((hst _ hok).1) rfl dX3_stationsBefore_23 ?_
        refine x_get (T := TX2) (N := 8) (v := .int (gL L (o.getD k 0) 0)) hx hb hts in_X2 hown hK ((hst _ hok).1) rfl 1 (by decide) k_f108 (fun _ h9 => h9) (rfl) dX3_stationsBefore_26 ?_
        refine lv_iload_n hx hb dX3_stationsBefore_29 rfl (lv_at hl 1 rfl) ?_
        refine lv_icmp_ge (tgt := 36) hx hb dX3_stationsBefore_30 (by decide) (fun c_3 => ?_) (fun c_3 => ?_)
        · have hl : lv_has ls 4 [(0, .ref xa), (1, .int x), (2, .int (nI (cnt (fun k => decide (gL L (o.getD k 0) 0 < x)) (k + 1)))), (3, .int (nI k))] := by
            have e9 : (cnt (fun k => decide (gL L (o.getD k 0) 0 < x)) (k + 1)) = (cnt (fun k => decide (gL L (o.getD k 0) 0 < x)) k) := by show cnt (fun k => decide (gL L (o.getD k 0) 0 < x)) k + ((fun k => decide (gL L (o.getD k 0) 0 < x)) k).toNat = _; rw [show (fun k => decide (gL L (o.getD k 0) 0 < x)) k = false from decide_eq_false (Int32.not_lt.mpr c_3)]; rfl
            rw [e9]; exact hl
          refine lv_iinc (v := nI (k + 1)) (lv' := [(3, .int (nI (k + 1))), (0, .ref xa), (1, .int x), (2, .int (nI (cnt (fun k => decide (gL L (o.getD k 0) 0 < x)) (k + 1))))]) hx hb dX3_stationsBefore_36 hl (k := 3) rfl (nI_incn _) (by decide) rfl (fun ls hl => ?_)
          refine lv_goto (tgt := 4) hx hb dX3_stationsBefore_39 (by decide) ?_
          exact ih_1 (k + 1) ls (by omega) (by omega) (lv_sub hl [1, 2, 3, 0] rfl)
        · refine lv_iinc (v := nI ((cnt (fun k => decide (gL L (o.getD k 0) 0 < x)) k) + 1)) (lv' := [(2, .int (nI ((cnt (fun k => decide (gL L (o.getD k 0) 0 < x)) k) + 1))), (0, .ref xa), (1, .int x), (3, .int (nI k))]) hx hb dX3_stationsBefore_33 hl (k := 2) rfl (nI_incn _) (by decide) rfl (fun ls hl => ?_)
          have hl : lv_has ls 4 [(2, .int (nI (cnt (fun k => decide (gL L (o.getD k 0) 0 < x)) (k + 1)))), (0, .ref xa), (1, .int x), (3, .int (nI k))] := by
            have e9 : (cnt (fun k => decide (gL L (o.getD k 0) 0 < x)) (k + 1)) = (cnt (fun k => decide (gL L (o.getD k 0) 0 < x)) k) + 1 := by show cnt (fun k => decide (gL L (o.getD k 0) 0 < x)) k + ((fun k => decide (gL L (o.getD k 0) 0 < x)) k).toNat = _; rw [show (fun k => decide (gL L (o.getD k 0) 0 < x)) k = true from decide_eq_true (Int32.not_le.mp c_3)]; rfl
            rw [e9]; exact hl
          refine lv_iinc (v := nI (k + 1)) (lv' := [(3, .int (nI (k + 1))), (2, .int (nI (cnt (fun k => decide (gL L (o.getD k 0) 0 < x)) (k + 1)))), (0, .ref xa), (1, .int x)]) hx hb dX3_stationsBefore_36 hl (k := 3) rfl (nI_incn _) (by decide) rfl (fun ls hl => ?_)
          refine lv_goto (tgt := 4) hx hb dX3_stationsBefore_39 (by decide) ?_
          exact ih_1 (k + 1) ls (by omega) (by omega) (lv_sub hl [2, 3, 1, 0] rfl)
  exact loop_1 _ 0 ls (Nat.lt_succ_self _) (Nat.zero_le _) (lv_sub hl [2, 3, 1, 0] rfl)
abbrev rmX3_build : Room := { frames := 7, cells := 5, slots := 60, locals := 161 }
theorem qdX3_build : yX3_build.cls = RX3 ∧ yX3_build.cls ≠ "java/lang/invoke/MethodHandle" ∧ yX3_build.cls ≠ "java/lang/invoke/VarHandle" ∧ (parseMethodDescriptor yX3_build.desc).map (fun d => d.parameters.length) = some 3 := by decide +kernel
set_option maxHeartbeats 4000000 in
set_option maxRecDepth 100000 in
theorem c_X3_build {l : Launch} {G : gT} {A : Nat → Prop} {H0 : Heap} {zA : Nat × Nat} {ro : Nat → Prop} {n hn : Nat} {L T : Nat → Int32} {o : List Nat} {sa fa ta ha : Nat → Nat} {F U : Nat → Nat → Int32} {aS aB aH xa rb0 ms9 : Nat} {x1 x2 x3 : Int32} (hxo : pt G xa (.inr (3, [.ref aS, .ref aB, .ref aH, .ref rb0, .ref ms9])) H0) (hcr : crO G ro n hn L T o sa fa ta ha F U aS aB aH H0) (hg : OK n hn L T) (ho : IsOrd (fun s => gL L s 0) n o) {XS XB rs : Nat → Prop} (hzS : alZ G zA.1 XS aS sa n H0) (hzB : alZ G zA.1 XB aB (fun k => sa (o.getD k 0)) n H0) (hXS : ∀ q, XS q → A q) (hXB : ∀ q, XB q → A q) (hSl : ∀ q, XS q → q < H0.size) (hBl : ∀ q, XB q → q < H0.size) (hSB : ∀ q, XS q → ¬ XB q) (hA : ∀ q, H0.size ≤ q → A q) (hstR : stR G rs L sa fa ta F U n H0) (hrX : ∀ q, rs q → ¬ XS q ∧ ¬ XB q) (hxX : rs xa) (hst : l.stackTraces = false) : VzI G zA l yX3_build wsX3_build rmX3_build [.ref xa, .int x1, .int x2, .int x3] H0 A 5 60 [eIA, eIS] (k2 (inR (nI 0) (nI 999) x1 && inR (-600) (nI 600) x2 && inR (-99) (nI 99) x3) (decide (n < 12) && frB L x1 n)) (fun r H1 => r = nI n ∧ ∃ s9 f9 u9 N1 N2 : Nat, ((H0.size ≤ s9 ∧ s9 < N1) ∧ (H0.size ≤ f9 ∧ f9 < N1) ∧ (H0.size ≤ u9 ∧ u9 < N1)) ∧ (N1 ≤ N2 ∧ N2 ≤ H1.size) ∧ (¬ s9 = f9 ∧ ¬ s9 = u9 ∧ ¬ f9 = u9) ∧ (pt G s9 (.inr (2, [.int (nI n), .int x1, .int x2, .int x3, .int 0, .int 0, .ref f9, .ref u9])) H1 ∧ pt G f9 (eI G 4 (fun _ => 0)) H1 ∧ pt G u9 (eI G 4 (fun _ => 0)) H1) ∧ alZ G zA.1 (fun q => XS q ∨ N1 ≤ q ∧ q < N2) aS (fun k => if k < n then sa k else s9) (n + 1) H1 ∧ alZ G zA.1 (fun q => XB q ∨ N2 ≤ q) aB (fun k => if k < insP L o n x1 then sa (o.getD k 0) else if k = insP L o n x1 then s9 else sa (o.getD (k - 1) 0)) (n + 1) H1) := by
  refine x_headx (bytes := cX3_build) (maxL := 6) (ret := (some .int)) (by decide) rfl (Nat.le_of_ble_eq_true rfl) ?_
  intro p e s m below meth c ls hx hb hml hown hts hr hlk hnm hK hs0 hl Q hQ hZ hxt
  have hl : lv_has ls 6 [(0, .ref xa), (1, .int x1), (2, .int x2), (3, .int x3)] := hl
  have hC : CallFix p m c cX3_build 6 s [.ref xa, .int x1, .int x2, .int x3].toArray wsX3_build RX3 := ⟨hx, hb, hml, hown, hts⟩
  have k_cl37 := hts (.classLink RX3 37 eIA) (by decide +kernel)
  have k_inieIA := hts (.initialized eIA) (by decide +kernel)
  have at_eIA : ∀ w ∈ (vx_at0 RX3 39 eIA xN).filter goodWord, w ∈ wsX3_build := by decide +kernel
  have k_cl48 := hts (.classLink RX3 48 eIS) (by decide +kernel)
  have k_inieIS := hts (.initialized eIS) (by decide +kernel)
  have at_eIS : ∀ w ∈ (vx_at0 RX3 50 eIS xN).filter goodWord, w ∈ wsX3_build := by decide +kernel
  have k_f12 := hts (.fieldLink RX3 12 "SundogLine" "stations" "Ljava/util/ArrayList;") (by decide +kernel)
  have in_X3 : ∀ w ∈ u_ws RX3 TX3 5, w ∈ wsX3_build := by decide +kernel
  have k_cl51 := hts (.classLink RX3 51 RX2) (by decide +kernel)
  have k_mkX2 := hts (.instantiable RX2 8) (by decide +kernel)
  have k_nX2 := hts (.initialized RX2) (by decide +kernel)
  have in_X2 : ∀ w ∈ u_ws RX2 TX2 8, w ∈ wsX3_build := by decide +kernel
  have k_m53 := hts (.methodLink RX3 53 yX2_init) (by decide +kernel)
  have k_iX2_init := hts (.instanceMethod yX2_init) (by decide +kernel)
  have k_f16 := hts (.fieldLink RX3 16 "SundogLine" "byPlace" "Ljava/util/ArrayList;") (by decide +kernel)
  have hN := hZ.nn
  have hS : va_S A H0 H0 [] := va_S.rf
  have hn12 := hg.n
  have hh16 := hg.hn
  refine lv_iload_n hx hb dX3_build_0 rfl (lv_at hl 1 rfl) ?_
  refine lv_iconst (v := nI 0) hx hb dX3_build_1 (by decide +kernel) ?_
  refine lv_sipush (v := nI 999) hx hb dX3_build_2 (by decide +kernel) ?_
  refine x_rd (va_runS (As := [.int x1, .int (nI 0), .int (nI 999)]) (rest := []) hC (c_X3_outside) (cwS 3 hts gX3_build_X3_outside rfl rfl rfl qdX3_outside ⟨Nat.le_of_ble_eq_true rfl, Nat.le_of_ble_eq_true rfl⟩) (x_preS hK) rfl rfl hl.1 rfl (lv_room (Nat.le_of_ble_eq_true rfl)) dX3_build_5 ⟨Nat.le_of_ble_eq_true rfl, Nat.le_of_ble_eq_true rfl⟩) ?_
  refine x_if_neB (tgt := 35) hx hb dX3_build_8 (by decide) (fun c_1 => ?_) (fun c_1 => ?_)
  · have hkk9 : k2 (inR (nI 0) (nI 999) x1 && inR (-600) (nI 600) x2 && inR (-99) (nI 99) x3) (decide (n < 12) && frB L x1 n) = 1 := by simp only [k1, k2, k3, Bool.and_true, Bool.true_and, Bool.and_false, Bool.false_and, Bool.not_true, Bool.not_false, bnt c_1] <;> rfl
    exact x_throw (cls := eIA) hQ hx hb hst hs0 hZ hS rfl hown (Or.inr (Or.inl rfl)) (by decide) k_cl37 k_inieIA (fun w hw => hts w (at_eIA w hw)) xb_eIA xg_eIA (hl.1.trans hml.symm) dX3_build_35 dX3_build_38 dX3_build_39 dX3_build_42 hxt (Nat.le_of_ble_eq_true rfl) (Nat.le_of_ble_eq_true rfl) (Nat.le_of_ble_eq_true rfl) (Nat.le_of_ble_eq_true rfl) hlk hS.2.2 (by decide) (by decide) (by rw [hkk9]; exact ⟨by decide, rfl⟩)
  · refine lv_iload_n hx hb dX3_build_11 rfl (lv_at hl 2 rfl) ?_
    refine lv_sipush (v := (-600)) hx hb dX3_build_12 (by decide +kernel) ?_
    refine lv_sipush (v := nI 600) hx hb dX3_build_15 (by decide +kernel) ?_
    refine x_rd (va_runS (As := [.int x2, .int ((-600)), .int (nI 600)]) (rest := []) hC (c_X3_outside) (cwS 3 hts gX3_build_X3_outside rfl rfl rfl qdX3_outside ⟨Nat.le_of_ble_eq_true rfl, Nat.le_of_ble_eq_true rfl⟩) (x_preS hK) rfl rfl hl.1 rfl (lv_room (Nat.le_of_ble_eq_true rfl)) dX3_build_18 ⟨Nat.le_of_ble_eq_true rfl, Nat.le_of_ble_eq_true rfl⟩) ?_
    refine x_if_neB (tgt := 35) hx hb dX3_build_21 (by decide) (fun c_2 => ?_) (fun c_2 => ?_)
    · have hkk9 : k2 (inR (nI 0) (nI 999) x1 && inR (-600) (nI 600) x2 && inR (-99) (nI 99) x3) (decide (n < 12) && frB L x1 n) = 1 := by simp only [k1, k2, k3, Bool.and_true, Bool.true_and, Bool.and_false, Bool.false_and, Bool.not_true, Bool.not_false, bnf c_1, bnt c_2] <;> rfl
      exact x_throw (cls := eIA) hQ hx hb hst hs0 hZ hS rfl hown (Or.inr (Or.inl rfl)) (by decide) k_cl37 k_inieIA (fun w hw => hts w (at_eIA w hw)) xb_eIA xg_eIA (hl.1.trans hml.symm) dX3_build_35 dX3_build_38 dX3_build_39 dX3_build_42 hxt (Nat.le_of_ble_eq_true rfl) (Nat.le_of_ble_eq_true rfl) (Nat.le_of_ble_eq_true rfl) (Nat.le_of_ble_eq_true rfl) hlk hS.2.2 (by decide) (by decide) (by rw [hkk9]; exact ⟨by decide, rfl⟩)
    · refine lv_iload_n hx hb dX3_build_24 rfl (lv_at hl 3 rfl) ?_
      refine lv_bipush (v := (-99)) hx hb dX3_build_25 (by decide +kernel) ?_
      refine lv_bipush (v := nI 99) hx hb dX3_build_27 (by decide +kernel) ?_
      refine x_rd (va_runS (As := [.int x3, .int ((-99)), .int (nI 99)]) (rest := []) hC (c_X3_outside) (cwS 3 hts gX3_build_X3_outside rfl rfl rfl qdX3_outside ⟨Nat.le_of_ble_eq_true rfl, Nat.le_of_ble_eq_true rfl⟩) (x_preS hK) rfl rfl hl.1 rfl (lv_room (Nat.le_of_ble_eq_true rfl)) dX3_build_29 ⟨Nat.le_of_ble_eq_true rfl, Nat.le_of_ble_eq_true rfl⟩) ?_
      refine x_if_eqB (tgt := 43) hx hb dX3_build_32 (by decide) (fun c_3 => ?_) (fun c_3 => ?_)
      · refine lv_aload_n hx hb dX3_build_43 rfl (lv_at hl 0 rfl) ?_
        refine lv_iload_n hx hb dX3_build_44 rfl (lv_at hl 1 rfl) ?_
        refine x_rd (va_runV (As := [.int x1]) (rest := []) hC (c_X3_isTaken (hxo) (hcr) hg) (cwV 1 hts gX3_build_X3_isTaken rfl rfl rfl qdX3_isTaken ⟨Nat.le_of_ble_eq_true rfl, Nat.le_of_ble_eq_true rfl⟩) (x_preV hK (x_recv hK (hxo) rfl)) rfl rfl hl.1 rfl (lv_room (Nat.le_of_ble_eq_true rfl)) dX3_build_45 ⟨Nat.le_of_ble_eq_true rfl, Nat.le_of_ble_eq_true rfl⟩) ?_
        refine x_if_neB (tgt := 63) hx hb dX3_build_48 (by decide) (fun c_4 => ?_) (fun c_4 => ?_)
        · have hkk9 : k2 (inR (nI 0) (nI 999) x1 && inR (-600) (nI 600) x2 && inR (-99) (nI 99) x3) (decide (n < 12) && frB L x1 n) = 2 := by simp only [k1, k2, k3, Bool.and_true, Bool.true_and, Bool.and_false, Bool.false_and, Bool.not_true, Bool.not_false, bnf c_1, bnf c_2, bnf c_3, bnt c_4] <;> rfl
          exact x_throw (cls := eIS) hQ hx hb hst hs0 hZ hS rfl hown (Or.inr (Or.inr rfl)) (by decide) k_cl48 k_inieIS (fun w hw => hts w (at_eIS w hw)) xb_eIS xg_eIS (hl.1.trans hml.symm) dX3_build_63 dX3_build_66 dX3_build_67 dX3_build_70 hxt (Nat.le_of_ble_eq_true rfl) (Nat.le_of_ble_eq_true rfl) (Nat.le_of_ble_eq_true rfl) (Nat.le_of_ble_eq_true rfl) hlk hS.2.2 (by decide) (by decide) (by rw [hkk9]; exact ⟨by decide, rfl⟩)
        · refine lv_aload_n hx hb dX3_build_51 rfl (lv_at hl 0 rfl) ?_
          refine x_get (T := TX3) (N := 5) (v := .ref aS) hx hb hts in_X3 hown hK (hxo) rfl 0 (by decide) k_f12 (fun _ h9 => h9) (rfl) dX3_build_52 ?_
          refine x_rd (va_runV (As := []) (rest := []) hC (c_size (hcr.lS)) (cwV 0 hts gX3_build_Jx4a65c_size_8abf5 rfl rfl rfl qdJx4a65c_size_8abf5 ⟨Nat.le_of_ble_eq_true rfl, Nat.le_of_ble_eq_true rfl⟩) (x_preV hK (alR_recv hK (hcr.lS))) rfl rfl hl.1 rfl (lv_room (Nat.le_of_ble_eq_true rfl)) dX3_build_55 ⟨Nat.le_of_ble_eq_true rfl, Nat.le_of_ble_eq_true rfl⟩) ?_
          refine lv_bipush (v := nI 12) hx hb dX3_build_58 (by decide +kernel) ?_
          refine x_icmp_lt (tgt := 71) hx hb (by omega) (by omega) dX3_build_60 (by decide) (fun c_5 => ?_) (fun c_5 => ?_)
          · have hn12b : n < 12 := c_5
            refine lv_aload_n hx hb dX3_build_71 rfl (lv_at hl 0 rfl) ?_
            refine x_get (T := TX3) (N := 5) (v := .ref aS) hx hb hts in_X3 hown hK (hxo) rfl 0 (by decide) k_f12 (fun _ h9 => h9) (rfl) dX3_build_72 ?_
            refine x_rd (va_runV (As := []) (rest := []) hC (c_size (hcr.lS)) (cwV 0 hts gX3_build_Jx4a65c_size_8abf5 rfl rfl rfl qdJx4a65c_size_8abf5 ⟨Nat.le_of_ble_eq_true rfl, Nat.le_of_ble_eq_true rfl⟩) (x_preV hK (alR_recv hK (hcr.lS))) rfl rfl hl.1 rfl (lv_room (Nat.le_of_ble_eq_true rfl)) dX3_build_75 ⟨Nat.le_of_ble_eq_true rfl, Nat.le_of_ble_eq_true rfl⟩) ?_
            refine lv_istore (lv' := [(4, .int (nI n)), (0, .ref xa), (1, .int x1), (2, .int x2), (3, .int x3)]) hx hb dX3_build_78 hl (by decide) rfl (fun ls hl => ?_)
            have hAo := hA
            obtain ⟨A, eA⟩ : ∃ A : Nat → Prop, A = fun q => H0.size ≤ q := ⟨_, rfl⟩
            have hA : ∀ q, H0.size ≤ q → A q := fun q h9 => ge_yes eA h9
            have hS : va_S A H0 H0 [] := va_S.rf
            have hP : va_P (gD G) vC [] H0 := fun k q h9 => by simp at h9
            have hD : va_D A [] := ⟨fun i j p q h9 => by simp at h9, fun k q h9 => by simp at h9⟩
            refine va_new (D := gD G) (cl := vC) (ci := 2) (fs := [.int 0, .int 0, .int 0, .int 0, .int 0, .int 0, .null, .null]) (C := RX2) (T := TX2) (N := 8) hx hb hts in_X2 tyX2 tyX2_ok hown k_cl51 k_mkX2 k_nX2 hK hP hD hS hA rfl (fun j hj => by rcases (show j = 0 ∨ j = 1 ∨ j = 2 ∨ j = 3 ∨ j = 4 ∨ j = 5 ∨ j = 6 ∨ j = 7 by omega) with rfl | rfl | rfl | rfl | rfl | rfl | rfl | rfl <;> rfl) (Nat.le_of_ble_eq_true rfl) (Nat.le_of_ble_eq_true rfl) dX3_build_80 (fun q_6 H hP hD hS => ?_)
            have hP : va_P (gD G) vC [(q_6, .inr (2, [.int 0, .int 0, .int 0, .int 0, .int 0, .int 0, .null, .null]))] H := hP
            have hD : va_D A [(q_6, .inr (2, [.int 0, .int 0, .int 0, .int 0, .int 0, .int 0, .null, .null]))] := hD
            refine lv_dup hx hb dX3_build_83 rfl ?_
            refine lv_iload hx hb dX3_build_84 (lv_at hl 0 rfl) ?_
            refine lv_iload_n hx hb dX3_build_86 rfl (lv_at hl 2 rfl) ?_
            refine lv_iload_n hx hb dX3_build_87 rfl (lv_at hl 3 rfl) ?_
            refine lv_iload_n hx hb dX3_build_88 rfl (lv_at hl 4 rfl) ?_
            refine x_runv (va_runI (As := [.int (nI n), .int x1, .int x2, .int x3]) (rest := [.ref q_6]) hC (c_X2_init (A := A) hP hD (fun q h9 => hA q (Nat.le_trans hS.1 h9))) (cwI 4 hts gX3_build_X2_init rfl rfl rfl k_nX2 k_m53 k_iX2_init rfl qdX2_init ⟨Nat.le_of_ble_eq_true rfl, Nat.le_of_ble_eq_true rfl⟩) (x_preS hK) rfl rfl hl.1 rfl (lv_room (Nat.le_of_ble_eq_true rfl)) dX3_build_89 ⟨Nat.le_of_ble_eq_true rfl, Nat.le_of_ble_eq_true rfl⟩) hS (fun _ h => h) (fun H locs hfr hΦ hS => ?_)
            obtain ⟨f9, u9, hP, hD⟩ := hΦ
            have hP : va_P (gD G) vC [(q_6, .inr (2, [.int (nI n), .int x1, .int x2, .int x3, .int 0, .int 0, .ref f9, .ref u9])), (f9, eI G 4 (fun _ => 0)), (u9, eI G 4 (fun _ => 0))] H := hP
            have hD : va_D A [(q_6, .inr (2, [.int (nI n), .int x1, .int x2, .int x3, .int 0, .int 0, .ref f9, .ref u9])), (f9, eI G 4 (fun _ => 0)), (u9, eI G 4 (fun _ => 0))] := hD
            refine lv_astore (lv' := [(5, .ref q_6), (4, .int (nI n)), (0, .ref xa), (1, .int x1), (2, .int x2), (3, .int x3)]) hx hb dX3_build_92 hl (by decide) rfl (fun ls hl => ?_)
            have hSf := hS
            have hS := va_S.wk hS (fun q h9 => hAo q (yes_ge eA h9))
            have hlo := fun (k : Nat) (q : Nat × va_E) hk => yes_ge eA (hD.2 k q hk)
            obtain ⟨N1, eN1⟩ : ∃ N1 : Nat, N1 = H.size := ⟨_, rfl⟩
            have hN1 : H0.size ≤ N1 := by rw [eN1]; exact hSf.1
            have hk0 : ∀ q, q < H0.size → H[q]? = H0[q]? := fun q hq => hSf.2.1 q hq (lt_no eA hq)
            have hzS1 : alZ G zA.1 XS aS sa n H := hzS.mv (fun q hq _ => hk0 q hq) (fun q _ hx => hx) (fun _ _ => rfl)
            have hzB1 : alZ G zA.1 XB aB (fun k => sa (o.getD k 0)) n H := hzB.mv (fun q hq _ => hk0 q hq) (fun q _ hx => hx) (fun _ _ => rfl)
            have hxo1 := va_at.kept hxo (hk0 _ (va_at.lt hxo))
            have hst1 : stR G rs L sa fa ta F U n H := hstR.kp (fun q hq _ => hk0 q hq)
            have hq9 : (H0.size ≤ q_6 ∧ q_6 < N1) ∧ (H0.size ≤ f9 ∧ f9 < N1) ∧ (H0.size ≤ u9 ∧ u9 < N1) := ⟨⟨hlo 0 _ rfl, by rw [eN1]; exact va_at.lt (hP 0 _ rfl)⟩, ⟨hlo 1 _ rfl, by rw [eN1]; exact va_at.lt (hP 1 _ rfl)⟩, hlo 2 _ rfl, by rw [eN1]; exact va_at.lt (hP 2 _ rfl)⟩
            have hne9 : ¬ q_6 = f9 ∧ ¬ q_6 = u9 ∧ ¬ f9 = u9 := ⟨fun e => absurd (hD.1 0 1 _ _ rfl rfl e) (by decide), fun e => absurd (hD.1 0 2 _ _ rfl rfl e) (by decide), fun e => absurd (hD.1 1 2 _ _ rfl rfl e) (by decide)⟩
            refine lv_aload_n hx hb dX3_build_94 rfl (lv_at hl 2 rfl) ?_
            refine x_get (T := TX3) (N := 5) (v := .ref aS) hx hb hts in_X3 hown hK (hxo1) rfl 0 (by decide) k_f12 (fun _ h9 => h9) (rfl) dX3_build_95 ?_
            refine lv_aload hx hb dX3_build_98 (lv_at hl 0 rfl) ?_
            have hsub : ∀ q, (XS q ∨ N1 ≤ q) → _ := fun q h9 => h9.elim (hXS q) (fun g => hAo q (Nat.le_trans hN1 g))
            refine x_runi (va_runV (As := [.ref q_6]) (rest := []) hC (c_addZ (A := fun q => XS q ∨ N1 ≤ q) (ci := 2) hzS1 (fun q h9 => Or.inl h9) (fun q h9 => Or.inr (by rw [eN1]; exact h9)) (fun h9 => hZ.1.2.2 (hsub _ h9)) (Or.inr rfl) (by omega) (fun k hk => ⟨⟨_, (hst1 k hk).1.1⟩, fun h9 => h9.elim (hrX _ (hst1 k hk).2.1).1 (fun g => by have := va_at.lt (hstR k hk).1.1; omega)⟩) (hP 0 _ rfl) (fun h9 => h9.elim (fun g => by have := hSl _ g; omega) (fun g => by omega))) (cwV 1 hts gX3_build_Jx4a65c_add_9ea2d rfl rfl rfl qdJx4a65c_add_9ea2d ⟨Nat.le_of_ble_eq_true rfl, Nat.le_of_ble_eq_true rfl⟩) (x_preVz hK ((hZ.at hS).narrow hsub) (alR_recv hK (hzS1.x.r))) rfl rfl hl.1 rfl (lv_room (Nat.le_of_ble_eq_true rfl)) dX3_build_100 ⟨Nat.le_of_ble_eq_true rfl, Nat.le_of_ble_eq_true rfl⟩) hS hsub (fun r1 H locs hfr1 hΦ1 hS => ?_)
            have hk1 : ∀ q, q < N1 → ¬ XS q → _ := fun q hq hx => hfr1.2 q (by omega) (fun h9 => h9.elim hx (fun g => by omega))
            have hnS : ∀ q, H0.size ≤ q → ¬ XS q := fun q hq g => by have := hSl _ g; omega
            have hxo2 := va_at.kept hxo1 (hk1 _ (by have := va_at.lt hxo1; omega) (hrX _ hxX).1)
            have hs1 := va_at.kept (hP 0 _ rfl) (hk1 _ hq9.1.2 (hnS _ hq9.1.1))
            have hf1 := va_at.kept (hP 1 _ rfl) (hk1 _ hq9.2.1.2 (hnS _ hq9.2.1.1))
            have hu1 := va_at.kept (hP 2 _ rfl) (hk1 _ hq9.2.2.2 (hnS _ hq9.2.2.1))
            have hzB2 : alZ G zA.1 XB aB (fun k => sa (o.getD k 0)) n H := hzB1.mv (fun q hq hx => hk1 q (by omega) (fun g => hSB q g hx)) (fun q _ hx => hx) (fun _ _ => rfl)
            have hst2 : stR G rs L sa fa ta F U n H := hst1.kp (fun q hq hr => hk1 q (by omega) (hrX q hr).1)
            obtain ⟨N2, eN2⟩ : ∃ N2 : Nat, N2 = H.size := ⟨_, rfl⟩
            have hN2 : N1 ≤ N2 := by have := hfr1.1; omega
            refine lv_pop hx hb dX3_build_103 rfl ?_
            refine lv_aload_n hx hb dX3_build_104 rfl (lv_at hl 2 rfl) ?_
            refine x_get (T := TX3) (N := 5) (v := .ref aB) hx hb hts in_X3 hown hK (hxo2) rfl 1 (by decide) k_f16 (fun _ h9 => h9) (rfl) dX3_build_105 ?_
            refine lv_aload_n hx hb dX3_build_108 rfl (lv_at hl 2 rfl) ?_
            refine lv_iload_n hx hb dX3_build_109 rfl (lv_at hl 3 rfl) ?_
            refine x_rd (va_runV (As := [.int x1]) (rest := [.ref aB]) hC (c_stBefore hxo2 hzB2.x.r (fun i hi => (hst2 i hi).1) hg ho) (cwV 1 hts gX3_build_X3_stationsBefore rfl rfl rfl qdX3_stationsBefore ⟨Nat.le_of_ble_eq_true rfl, Nat.le_of_ble_eq_true rfl⟩) (x_preV hK (x_recv hK (hxo2) rfl)) rfl rfl hl.1 rfl (lv_room (Nat.le_of_ble_eq_true rfl)) dX3_build_110 ⟨Nat.le_of_ble_eq_true rfl, Nat.le_of_ble_eq_true rfl⟩) ?_
            refine lv_aload hx hb dX3_build_113 (lv_at hl 0 rfl) ?_
            have hsub2 : ∀ q, (XB q ∨ N2 ≤ q) → _ := fun q h9 => h9.elim (hXB q) (fun g => hAo q (Nat.le_trans hN1 (Nat.le_trans hN2 g)))
            refine x_runv (va_runV (As := [.int (nI (insP L o n x1)), .ref q_6]) (rest := []) hC (c_addIZ (A := fun q => XB q ∨ N2 ≤ q) (ci := 2) hzB2 (fun q h9 => Or.inl h9) (fun q h9 => Or.inr (by rw [eN2]; exact h9)) (fun h9 => hZ.1.2.2 (hsub2 _ h9)) (Or.inr rfl) (by omega) (fun k hk => ⟨⟨_, (hst2 _ (ho.gt hk).2).1.1⟩, fun h9 => h9.elim (hrX _ (hst2 _ (ho.gt hk).2).2.1).2 (fun g => by have := va_at.lt (hst1 _ (ho.gt hk).2).1.1; omega)⟩) hs1 (fun h9 => h9.elim (fun g => by have := hBl _ g; omega) (fun g => by omega)) insP_le) (cwV 2 hts gX3_build_Jx4a65c_add_7a177 rfl rfl rfl qdJx4a65c_add_7a177 ⟨Nat.le_of_ble_eq_true rfl, Nat.le_of_ble_eq_true rfl⟩) (x_preVz hK ((hZ.at hS).narrow hsub2) (alR_recv hK (hzB2.x.r))) rfl rfl hl.1 rfl (lv_room (Nat.le_of_ble_eq_true rfl)) dX3_build_115 ⟨Nat.le_of_ble_eq_true rfl, Nat.le_of_ble_eq_true rfl⟩) hS hsub2 (fun H locs hfr2 hΦ2 hS => ?_)
            have hk2 : ∀ q, q < N2 → ¬ XB q → _ := fun q hq hx => hfr2.2 q (by omega) (fun h9 => h9.elim hx (fun g => by omega))
            have hnB : ∀ q, H0.size ≤ q → ¬ XB q := fun q hq g => by have := hBl _ g; omega
            have hN3 : N2 ≤ H.size := by have := hfr2.1; omega
            have hs2 := va_at.kept hs1 (hk2 _ (by omega) (hnB _ hq9.1.1))
            have hf2 := va_at.kept hf1 (hk2 _ (by omega) (hnB _ hq9.2.1.1))
            have hu2 := va_at.kept hu1 (hk2 _ (by omega) (hnB _ hq9.2.2.1))
            have hzS3 : alZ G zA.1 (fun q => XS q ∨ N1 ≤ q ∧ q < N2) aS (fun k => if k < n then sa k else q_6) (n + 1) H := hΦ1.mv (fun q hq hx => hk2 q (by omega) (fun g => hx.elim (fun z => hSB q z g) (fun z => by have := hBl _ g; omega))) (fun q hq hx => hx.elim Or.inl (fun z => Or.inr ⟨z, by omega⟩)) (fun _ _ => rfl)
            refine lv_iload hx hb dX3_build_118 (lv_at hl 1 rfl) ?_
            have hkk9 : k2 (inR (nI 0) (nI 999) x1 && inR (-600) (nI 600) x2 && inR (-99) (nI 99) x3) (decide (n < 12) && frB L x1 n) = 0 := by simp only [k1, k2, k3, Bool.and_true, Bool.true_and, Bool.and_false, Bool.false_and, Bool.not_true, Bool.not_false, bnf c_1, bnf c_2, bnf c_3, bnf c_4, decide_eq_true c_5] <;> rfl
            refine W.widen (k := 5) (n := 60) (Nat.le_of_ble_eq_true rfl) (Nat.le_of_ble_eq_true rfl) ?_
            refine x_vxret hQ ?_
            exact x_iret rfl hx hb hr rfl hlk hS.2.2 dX3_build_120 ⟨hS.fr, hkk9, ⟨rfl, q_6, f9, u9, N1, N2, hq9, ⟨hN2, hN3⟩, hne9, ⟨hs2, hf2, hu2⟩, hzS3, hΦ2⟩⟩
          · have hkk9 : k2 (inR (nI 0) (nI 999) x1 && inR (-600) (nI 600) x2 && inR (-99) (nI 99) x3) (decide (n < 12) && frB L x1 n) = 2 := by simp only [k1, k2, k3, Bool.and_true, Bool.true_and, Bool.and_false, Bool.false_and, Bool.not_true, Bool.not_false, bnf c_1, bnf c_2, bnf c_3, bnf c_4, decide_eq_false (Nat.not_lt.mpr c_5)] <;> rfl
            exact x_throw (cls := eIS) hQ hx hb hst hs0 hZ hS rfl hown (Or.inr (Or.inr rfl)) (by decide) k_cl48 k_inieIS (fun w hw => hts w (at_eIS w hw)) xb_eIS xg_eIS (hl.1.trans hml.symm) dX3_build_63 dX3_build_66 dX3_build_67 dX3_build_70 hxt (Nat.le_of_ble_eq_true rfl) (Nat.le_of_ble_eq_true rfl) (Nat.le_of_ble_eq_true rfl) (Nat.le_of_ble_eq_true rfl) hlk hS.2.2 (by decide) (by decide) (by rw [hkk9]; exact ⟨by decide, rfl⟩)
      · have hkk9 : k2 (inR (nI 0) (nI 999) x1 && inR (-600) (nI 600) x2 && inR (-99) (nI 99) x3) (decide (n < 12) && frB L x1 n) = 1 := by simp only [k1, k2, k3, Bool.and_true, Bool.true_and, Bool.and_false, Bool.false_and, Bool.not_true, Bool.not_false, bnf c_1, bnf c_2, bnt c_3] <;> rfl
        exact x_throw (cls := eIA) hQ hx hb hst hs0 hZ hS rfl hown (Or.inr (Or.inl rfl)) (by decide) k_cl37 k_inieIA (fun w hw => hts w (at_eIA w hw)) xb_eIA xg_eIA (hl.1.trans hml.symm) dX3_build_35 dX3_build_38 dX3_build_39 dX3_build_42 hxt (Nat.le_of_ble_eq_true rfl) (Nat.le_of_ble_eq_true rfl) (Nat.le_of_ble_eq_true rfl) (Nat.le_of_ble_eq_true rfl) hlk hS.2.2 (by decide) (by decide) (by rw [hkk9]; exact ⟨by decide, rfl⟩)
