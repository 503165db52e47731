theorem findI_cg {f g : Nat → Bool} : ∀ m, (∀ k, k < m → f k = g k) → findI f m = findI g m := by
  intro m
  induction m with
  | zero => intro _; rfl
  | succ m ih =>
    intro h
    simp only [findI]
    rw [ih (fun k hk => h k (by omega)), h m (by omega)]
theorem ordR_cg {M : Nat} {r r' : Nat → Int32} {q : Nat → Nat} {x : Int32} (h : ∀ k, k < M → r k = r' k) : findI (ordR M r q x) M = findI (ordR M r' q x) M := findI_cg M (fun k hk => by
  unfold ordR
  rw [cnt_congr M (fun j hj => by unfold ahR; rw [h j hj, h k hk] : ∀ j, j < M → ahR r q k j = ahR r' q k j)])
/-- what order() tells, as the class seeks it -/
def ordC (L T : Nat → Int32) (o : List Nat) (j : Nat) (x : Int32) : Int32 := onQ (fun k => sq L T o j k) (findI (ordR (sqL L T o j).length (fun k => rr L T o j k) (fun k => sq L T o j k) x) (sqL L T o j).length)
abbrev rmX3_order : Room := { frames := 6, cells := 1, slots := 6, locals := 90 }
theorem qdX3_order : yX3_order.cls = RX3 ∧ yX3_order.cls ≠ "java/lang/invoke/MethodHandle" ∧ yX3_order.cls ≠ "java/lang/invoke/VarHandle" ∧ (parseMethodDescriptor yX3_order.desc).map (fun d => d.parameters.length) = some 2 := by decide +kernel
set_option maxHeartbeats 4000000 in
set_option maxRecDepth 100000 in
theorem c_X3_order {l : Launch} {G : gT} {A : Nat → Prop} {H0 : Heap} {zA : Nat × Nat} {ro : Nat → Prop} {n hn : Nat} {L T : Nat → Int32} {o : List Nat} {sa fa ta ha : Nat → Nat} {F U : Nat → Nat → Int32} {aS aB aH xa ms9 : Nat} {rb : Nat → Nat} {ri : Nat → Int32} {ra : Nat → Nat → Int32} {x1 x2 : Int32} (hxo : pt G xa (.inr (3, [.ref aS, .ref aB, .ref aH, .ref (rb 0), .ref ms9])) H0) (hcr : crO G ro n hn L T o sa fa ta ha F U aS aB aH H0) (hg : OK n hn L T) (ho : IsOrd (fun s => gL L s 0) n o) (hP : rP G rb ri ra H0) (hD : va_D A (rW G rb ri ra)) (hro : ∀ q, ro q → ¬ A q) (hxA : ¬ A xa) (hst : l.stackTraces = false) : VzI G zA l yX3_order wsX3_order rmX3_order [.ref xa, .int x1, .int x2] H0 A 1 6 [eIX] (k1 (vS hn x1 && !decide (x2 < 0))) (fun r H1 => (r = ordC L T o x1.toNatClampNeg x2) ∧ ∃ ri1 ra1, rP G rb ri1 ra1 H1) := by
  refine x_headx (bytes := cX3_order) (maxL := 3) (ret := (some .int)) (by decide) rfl (Nat.le_of_ble_eq_true rfl) ?_
  intro p e s m below meth c ls hx hb hml hown hts hr hlk hnm hK hs0 hl Q hQ hZ hxt
  have hl : lv_has ls 3 [(0, .ref xa), (1, .int x1), (2, .int x2)] := hl
  have hC : CallFix p m c cX3_order 3 s [.ref xa, .int x1, .int x2].toArray wsX3_order RX3 := ⟨hx, hb, hml, hown, hts⟩
  have k_cl70 := hts (.classLink RX3 70 eIX) (by decide +kernel)
  have k_inieIX := hts (.initialized eIX) (by decide +kernel)
  have at_eIX : ∀ w ∈ (vx_at0 RX3 72 eIX xN).filter goodWord, w ∈ wsX3_order := by decide +kernel
  have k_f25 := hts (.fieldLink RX3 25 "SundogLine" "reckoning" "LSundogLine$Reckoning;") (by decide +kernel)
  have in_X3 : ∀ w ∈ u_ws RX3 TX3 5, w ∈ wsX3_order := by decide +kernel
  have k_f19 := hts (.fieldLink RX3 19 "SundogLine" "halos" "Ljava/util/ArrayList;") (by decide +kernel)
  have k_cl102 := hts (.classLink RX3 102 RX0) (by decide +kernel)
  have k_f16 := hts (.fieldLink RX3 16 "SundogLine" "byPlace" "Ljava/util/ArrayList;") (by decide +kernel)
  have hN := hZ.nn
  have hS : va_S A H0 H0 [] := va_S.rf
  have hn12 := hg.n
  have hh16 := hg.hn
  refine lv_aload_n hx hb dX3_order_0 rfl (lv_at hl 0 rfl) ?_
  refine lv_iload_n hx hb dX3_order_1 rfl (lv_at hl 1 rfl) ?_
  refine x_rd (va_runV (As := [.int x1]) (rest := []) hC (c_X3_noHalo ((va_at.kept hxo (hS.2.1 _ hxo.lt hxA))) ((hcr.at hS hro)) hg) (cwV 1 hts gX3_order_X3_noHalo rfl rfl rfl qdX3_noHalo ⟨Nat.le_of_ble_eq_true rfl, Nat.le_of_ble_eq_true rfl⟩) (x_preV hK (x_recv hK ((va_at.kept hxo (hS.2.1 _ hxo.lt hxA))) rfl)) rfl rfl hl.1 rfl (lv_room (Nat.le_of_ble_eq_true rfl)) dX3_order_2 ⟨Nat.le_of_ble_eq_true rfl, Nat.le_of_ble_eq_true rfl⟩) ?_
  refine x_if_neB (tgt := 12) hx hb dX3_order_5 (by decide) (fun c_1 => ?_) (fun c_1 => ?_)
  · have hkk9 : k1 (vS hn x1 && !decide (x2 < 0)) = 1 := by simp only [k1, k2, k3, Bool.and_true, Bool.true_and, Bool.and_false, Bool.false_and, Bool.not_true, Bool.not_false, bnt c_1] <;> rfl
    exact x_throw (cls := eIX) hQ hx hb hst hs0 hZ hS rfl hown (Or.inl rfl) (by decide) k_cl70 k_inieIX (fun w hw => hts w (at_eIX w hw)) xb_eIX xg_eIX (hl.1.trans hml.symm) dX3_order_12 dX3_order_15 dX3_order_16 dX3_order_19 hxt (Nat.le_of_ble_eq_true rfl) (Nat.le_of_ble_eq_true rfl) (Nat.le_of_ble_eq_true rfl) (Nat.le_of_ble_eq_true rfl) hlk hS.2.2 (by decide) (by decide) (by rw [hkk9]; exact ⟨by decide, rfl⟩)
  · refine lv_iload_n hx hb dX3_order_8 rfl (lv_at hl 2 rfl) ?_
    refine lv_if_ge (tgt := 20) hx hb dX3_order_9 (by decide) (fun c_2 => ?_) (fun c_2 => ?_)
    · obtain ⟨j, hj, rfl⟩ := inR_nat (show hn < 2 ^ 30 by omega) (bnf c_1)
      refine lv_aload_n hx hb dX3_order_20 rfl (lv_at hl 0 rfl) ?_
      refine x_get (T := TX3) (N := 5) (v := .ref (rb 0)) hx hb hts in_X3 hown hK ((va_at.kept hxo (hS.2.1 _ hxo.lt hxA))) rfl 3 (by decide) k_f25 (fun _ h9 => h9) (rfl) dX3_order_21 ?_
      refine lv_aload_n hx hb dX3_order_24 rfl (lv_at hl 0 rfl) ?_
      refine x_get (T := TX3) (N := 5) (v := .ref aH) hx hb hts in_X3 hown hK ((va_at.kept hxo (hS.2.1 _ hxo.lt hxA))) rfl 2 (by decide) k_f19 (fun _ h9 => h9) (rfl) dX3_order_25 ?_
      refine lv_iload_n hx hb dX3_order_28 rfl (lv_at hl 1 rfl) ?_
      refine x_rd (va_runV (As := [.int (nI j)]) (rest := [.ref (rb 0)]) hC (c_get ((hcr.at hS hro).lH) (by omega)) (cwV 1 hts gX3_order_Jx4a65c_get_915e3 rfl rfl rfl qdJx4a65c_get_915e3 ⟨Nat.le_of_ble_eq_true rfl, Nat.le_of_ble_eq_true rfl⟩) (x_preV hK (alR_recv hK ((hcr.at hS hro).lH))) rfl rfl hl.1 rfl (lv_room (Nat.le_of_ble_eq_true rfl)) dX3_order_29 ⟨Nat.le_of_ble_eq_true rfl, Nat.le_of_ble_eq_true rfl⟩) ?_
      refine x_cast hx hb hown k_cl102 hK ((hcr.at hS hro).hal (show j < hn by omega)) rfl dX3_order_32 ?_
      refine lv_aload_n hx hb dX3_order_35 rfl (lv_at hl 0 rfl) ?_
      refine x_get (T := TX3) (N := 5) (v := .ref aB) hx hb hts in_X3 hown hK ((va_at.kept hxo (hS.2.1 _ hxo.lt hxA))) rfl 1 (by decide) k_f16 (fun _ h9 => h9) (rfl) dX3_order_36 ?_
      refine x_runv (va_runV (As := [.ref (ha j), .ref aB]) (rest := []) hC (c_X1_look (A := A) hP hD (hcr.at hS hro) hro hg ho (show j < hn by omega)) (cwV 2 hts gX3_order_X1_look rfl rfl rfl qdX1_look ⟨Nat.le_of_ble_eq_true rfl, Nat.le_of_ble_eq_true rfl⟩) (x_preV hK (x_recv hK (hP 0 _ rfl) rfl)) rfl rfl hl.1 rfl (lv_room (Nat.le_of_ble_eq_true rfl)) dX3_order_39 ⟨Nat.le_of_ble_eq_true rfl, Nat.le_of_ble_eq_true rfl⟩) hS (fun _ h => h) (fun H locs hfr hΦ hS => ?_)
      obtain ⟨s9, p9, r9, hsA, hpA, hrA, hP⟩ := hΦ
      have hP : rP G rb (va_up ri 0 (nI (sqL L T o j).length)) (va_up (va_up (va_up ra 0 s9) 1 p9) 2 r9) H := hP
      have hD : va_D A (rW G rb (va_up ri 0 (nI (sqL L T o j).length)) (va_up (va_up (va_up ra 0 s9) 1 p9) 2 r9)) := hD.same rfl
      have hM12 : (sqL L T o j).length ≤ 12 := Nat.le_trans (sqM_le ho) hn12
      refine lv_aload_n hx hb dX3_order_42 rfl (lv_at hl 0 rfl) ?_
      refine x_get (T := TX3) (N := 5) (v := .ref (rb 0)) hx hb hts in_X3 hown hK ((va_at.kept hxo (hS.2.1 _ hxo.lt hxA))) rfl 3 (by decide) k_f25 (fun _ h9 => h9) (rfl) dX3_order_43 ?_
      refine lv_iload_n hx hb dX3_order_46 rfl (lv_at hl 2 rfl) ?_
      refine x_rd (va_runV (As := [.int x2]) (rest := []) hC (c_X1_stationInOrder (M := (sqL L T o j).length) (q := fun k => sq L T o j k) hP rfl hM12 hsA (fun k hk => Nat.lt_of_lt_of_le (sq_lt ho hk) hn12)) (cwV 1 hts gX3_order_X1_stationInOrder rfl rfl rfl qdX1_stationInOrder ⟨Nat.le_of_ble_eq_true rfl, Nat.le_of_ble_eq_true rfl⟩) (x_preV hK (x_recv hK (hP 0 _ rfl) rfl)) rfl rfl hl.1 rfl (lv_room (Nat.le_of_ble_eq_true rfl)) dX3_order_47 ⟨Nat.le_of_ble_eq_true rfl, Nat.le_of_ble_eq_true rfl⟩) ?_
      refine W.eq (g2 := F0 m 50 ls [.int (onQ (fun k => sq L T o j k) (findI (ordR (sqL L T o j).length r9 (fun k => sq L T o j k) x2) (sqL L T o j).length))]) rfl ?_
      have hkk9 : k1 (vS hn (nI j) && !decide (x2 < 0)) = 0 := by simp only [k1, k2, k3, Bool.and_true, Bool.true_and, Bool.and_false, Bool.false_and, Bool.not_true, Bool.not_false, bnf c_1, decide_eq_false (Int32.not_lt.mpr c_2)] <;> rfl
      refine W.widen (k := 1) (n := 6) (Nat.zero_le _) (Nat.zero_le _) ?_
      refine x_vxret hQ ?_
      exact x_iret rfl hx hb hr rfl hlk hS.2.2 dX3_order_50 ⟨hS.fr, hkk9, ⟨by rw [nI_clamp (show j < 2 ^ 31 by omega)]; exact congrArg (onQ _) (ordR_cg hrA), _, _, hP⟩⟩
    · have hkk9 : k1 (vS hn x1 && !decide (x2 < 0)) = 1 := by simp only [k1, k2, k3, Bool.and_true, Bool.true_and, Bool.and_false, Bool.false_and, Bool.not_true, Bool.not_false, bnf c_1, decide_eq_true (Int32.not_le.mp c_2)] <;> rfl
      exact x_throw (cls := eIX) hQ hx hb hst hs0 hZ hS rfl hown (Or.inl rfl) (by decide) k_cl70 k_inieIX (fun w hw => hts w (at_eIX w hw)) xb_eIX xg_eIX (hl.1.trans hml.symm) dX3_order_12 dX3_order_15 dX3_order_16 dX3_order_19 hxt (Nat.le_of_ble_eq_true rfl) (Nat.le_of_ble_eq_true rfl) (Nat.le_of_ble_eq_true rfl) (Nat.le_of_ble_eq_true rfl) hlk hS.2.2 (by decide) (by decide) (by rw [hkk9]; exact ⟨by decide, rfl⟩)
