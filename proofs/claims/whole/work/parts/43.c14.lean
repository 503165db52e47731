abbrev rmX2_cover : Room := { frames := 0, cells := 0, slots := 0, locals := 0 }
theorem qdX2_cover : yX2_cover.cls = RX2 ∧ yX2_cover.cls ≠ "java/lang/invoke/MethodHandle" ∧ yX2_cover.cls ≠ "java/lang/invoke/VarHandle" ∧ (parseMethodDescriptor yX2_cover.desc).map (fun d => d.parameters.length) = some 2 := by decide +kernel
set_option maxHeartbeats 4000000 in
set_option maxRecDepth 100000 in
theorem c_X2_cover {l : Launch} {G : gT} {A : Nat → Prop} {H0 : Heap} {L : Nat → Int32} {i s8 f9 u9 : Nat} {F9 U9 : Nat → Int32} {x y : Int32} (hP : va_P (gD G) vC [(s8, .inr (2, [.int (nI i), .int (gL L i 0), .int (gL L i 1), .int (gL L i 2), .int (gL L i 3), .int (nI (nc L i)), .ref f9, .ref u9])), (f9, eI G 4 F9), (u9, eI G 4 U9)] H0) (hD : va_D A [(s8, .inr (2, [.int (nI i), .int (gL L i 0), .int (gL L i 1), .int (gL L i 2), .int (gL L i 3), .int (nI (nc L i)), .ref f9, .ref u9])), (f9, eI G 4 F9), (u9, eI G 4 U9)]) (hc4 : nc L i < 4) : WrV G l yX2_cover wsX2_cover rmX2_cover [.ref s8, .int x, .int y] H0 A (fun H1 => va_P (gD G) vC [(s8, .inr (2, [.int (nI i), .int (gL L i 0), .int (gL L i 1), .int (gL L i 2), .int (gL L i 3), .int (nI (nc L i + 1)), .ref f9, .ref u9])), (f9, eI G 4 (upd F9 (nc L i) x)), (u9, eI G 4 (upd U9 (nc L i) y))] H1) := by
  refine x_head (bytes := cX2_cover) (maxL := 3) (ret := none) (by decide) rfl (Nat.le_of_ble_eq_true rfl) ?_
  intro p e s m below meth c ls hx hb hml hown hts hr hlk hnm hK hs0 hl Q hQ
  have hl : lv_has ls 3 [(0, .ref s8), (1, .int x), (2, .int y)] := hl
  have hC : CallFix p m c cX2_cover 3 s [.ref s8, .int x, .int y].toArray wsX2_cover RX2 := ⟨hx, hb, hml, hown, hts⟩
  have k_f38 := hts (.fieldLink RX2 38 "SundogLine$Station" "clouds" "I") (by decide +kernel)
  have in_X2 : ∀ w ∈ u_ws RX2 TX2 8, w ∈ wsX2_cover := by decide +kernel
  have k_f24 := hts (.fieldLink RX2 24 "SundogLine$Station" "cloudFrom" "[I") (by decide +kernel)
  have k_f28 := hts (.fieldLink RX2 28 "SundogLine$Station" "cloudTo" "[I") (by decide +kernel)
  have hS : va_S A H0 H0 [] := va_S.rf
  refine lv_aload_n hx hb dX2_cover_0 rfl (lv_at hl 0 rfl) ?_
  refine x_get (T := TX2) (N := 8) (v := .int (nI (nc L i))) hx hb hts in_X2 hown hK (hP 0 _ rfl) rfl 5 (by decide) k_f38 (fun _ h9 => h9) (rfl) dX2_cover_1 ?_
  refine lv_if_lt (tgt := 61) hx hb dX2_cover_4 (by decide) (fun c_1 => ?_) (fun c_1 => ?_)
  · exact absurd c_1 (nI_pos (by omega))
  · refine lv_aload_n hx hb dX2_cover_7 rfl (lv_at hl 0 rfl) ?_
    refine x_get (T := TX2) (N := 8) (v := .int (nI (nc L i))) hx hb hts in_X2 hown hK (hP 0 _ rfl) rfl 5 (by decide) k_f38 (fun _ h9 => h9) (rfl) dX2_cover_8 ?_
    refine lv_aload_n hx hb dX2_cover_11 rfl (lv_at hl 0 rfl) ?_
    refine x_get (T := TX2) (N := 8) (v := .ref f9) hx hb hts in_X2 hown hK (hP 0 _ rfl) rfl 6 (by decide) k_f24 (fun _ h9 => h9) (rfl) dX2_cover_12 ?_
    refine x_alen (t0 := 0) hx hb hK (hP 1 _ rfl) rfl dX2_cover_15 ?_
    refine x_icmp_ge (tgt := 61) hx hb (by omega) (by omega) dX2_cover_16 (by decide) (fun c_2 => ?_) (fun c_2 => ?_)
    · exact absurd c_2 (by omega)
    · refine lv_aload_n hx hb dX2_cover_19 rfl (lv_at hl 0 rfl) ?_
      refine x_get (T := TX2) (N := 8) (v := .int (nI (nc L i))) hx hb hts in_X2 hown hK (hP 0 _ rfl) rfl 5 (by decide) k_f38 (fun _ h9 => h9) (rfl) dX2_cover_20 ?_
      refine lv_aload_n hx hb dX2_cover_23 rfl (lv_at hl 0 rfl) ?_
      refine x_get (T := TX2) (N := 8) (v := .ref u9) hx hb hts in_X2 hown hK (hP 0 _ rfl) rfl 7 (by decide) k_f28 (fun _ h9 => h9) (rfl) dX2_cover_24 ?_
      refine x_alen (t0 := 0) hx hb hK (hP 2 _ rfl) rfl dX2_cover_27 ?_
      refine x_icmp_ge (tgt := 61) hx hb (by omega) (by omega) dX2_cover_28 (by decide) (fun c_3 => ?_) (fun c_3 => ?_)
      · exact absurd c_3 (by omega)
      · refine lv_aload_n hx hb dX2_cover_31 rfl (lv_at hl 0 rfl) ?_
        refine x_get (T := TX2) (N := 8) (v := .ref f9) hx hb hts in_X2 hown hK (hP 0 _ rfl) rfl 6 (by decide) k_f24 (fun _ h9 => h9) (rfl) dX2_cover_32 ?_
        refine lv_aload_n hx hb dX2_cover_35 rfl (lv_at hl 0 rfl) ?_
        refine x_get (T := TX2) (N := 8) (v := .int (nI (nc L i))) hx hb hts in_X2 hown hK (hP 0 _ rfl) rfl 5 (by decide) k_f38 (fun _ h9 => h9) (rfl) dX2_cover_36 ?_
        refine lv_iload_n hx hb dX2_cover_39 rfl (lv_at hl 1 rfl) ?_
        refine x_iast hx hb hK hP hD hS 1 rfl (by omega) (by decide) dX2_cover_40 (fun H locs hP hD hS => ?_)
        have hP : va_P (gD G) vC [(s8, .inr (2, [.int (nI i), .int (gL L i 0), .int (gL L i 1), .int (gL L i 2), .int (gL L i 3), .int (nI (nc L i)), .ref f9, .ref u9])), (f9, eI G 4 (upd F9 (nc L i) x)), (u9, eI G 4 U9)] H := hP
        have hD : va_D A [(s8, .inr (2, [.int (nI i), .int (gL L i 0), .int (gL L i 1), .int (gL L i 2), .int (gL L i 3), .int (nI (nc L i)), .ref f9, .ref u9])), (f9, eI G 4 (upd F9 (nc L i) x)), (u9, eI G 4 U9)] := hD
        refine lv_aload_n hx hb dX2_cover_41 rfl (lv_at hl 0 rfl) ?_
        refine x_get (T := TX2) (N := 8) (v := .ref u9) hx hb hts in_X2 hown hK (hP 0 _ rfl) rfl 7 (by decide) k_f28 (fun _ h9 => h9) (rfl) dX2_cover_42 ?_
        refine lv_aload_n hx hb dX2_cover_45 rfl (lv_at hl 0 rfl) ?_
        refine x_get (T := TX2) (N := 8) (v := .int (nI (nc L i))) hx hb hts in_X2 hown hK (hP 0 _ rfl) rfl 5 (by decide) k_f38 (fun _ h9 => h9) (rfl) dX2_cover_46 ?_
        refine lv_iload_n hx hb dX2_cover_49 rfl (lv_at hl 2 rfl) ?_
        refine x_iast hx hb hK hP hD hS 2 rfl (by omega) (by decide) dX2_cover_50 (fun H locs hP hD hS => ?_)
        have hP : va_P (gD G) vC [(s8, .inr (2, [.int (nI i), .int (gL L i 0), .int (gL L i 1), .int (gL L i 2), .int (gL L i 3), .int (nI (nc L i)), .ref f9, .ref u9])), (f9, eI G 4 (upd F9 (nc L i) x)), (u9, eI G 4 (upd U9 (nc L i) y))] H := hP
        have hD : va_D A [(s8, .inr (2, [.int (nI i), .int (gL L i 0), .int (gL L i 1), .int (gL L i 2), .int (gL L i 3), .int (nI (nc L i)), .ref f9, .ref u9])), (f9, eI G 4 (upd F9 (nc L i) x)), (u9, eI G 4 (upd U9 (nc L i) y))] := hD
        refine lv_aload_n hx hb dX2_cover_51 rfl (lv_at hl 0 rfl) ?_
        refine lv_dup hx hb dX2_cover_52 rfl ?_
        refine x_get (T := TX2) (N := 8) (v := .int (nI (nc L i))) hx hb hts in_X2 hown hK (hP 0 _ rfl) rfl 5 (by decide) k_f38 (fun _ h9 => h9) (rfl) dX2_cover_53 ?_
        refine lv_iconst (v := nI 1) hx hb dX2_cover_56 (by decide +kernel) ?_
        refine x_iaddN hx hb dX2_cover_57 ?_
        refine va_put (D := gD G) (ci := 2) (v := .int (nI ((nc L i) + 1))) (ty := .int) (C := RX2) (T := TX2) (N := 8) hx hb hts in_X2 tyX2 tyX2_ok nmX2 hown hK hP hD hS 0 rfl rfl 5 (by decide) k_f38 (fun _ h9 => h9) rfl (by decide +kernel) rfl rfl (Nat.le_of_ble_eq_true rfl) dX2_cover_58 (fun H locs hP hD hS => ?_)
        have hP : va_P (gD G) vC [(s8, .inr (2, [.int (nI i), .int (gL L i 0), .int (gL L i 1), .int (gL L i 2), .int (gL L i 3), .int (nI ((nc L i) + 1)), .ref f9, .ref u9])), (f9, eI G 4 (upd F9 (nc L i) x)), (u9, eI G 4 (upd U9 (nc L i) y))] H := hP
        have hD : va_D A [(s8, .inr (2, [.int (nI i), .int (gL L i 0), .int (gL L i 1), .int (gL L i 2), .int (gL L i 3), .int (nI ((nc L i) + 1)), .ref f9, .ref u9])), (f9, eI G 4 (upd F9 (nc L i) x)), (u9, eI G 4 (upd U9 (nc L i) y))] := hD
        exact x_vret hQ hx hb hr hlk hS.2.2 dX2_cover_61 (⟨hS.fr, hP⟩)
