abbrev rmX3_gatherMisses : Room := { frames := 5, cells := 0, slots := 0, locals := 111 }
theorem qdX3_gatherMisses : yX3_gatherMisses.cls = RX3 ∧ yX3_gatherMisses.cls ≠ "java/lang/invoke/MethodHandle" ∧ yX3_gatherMisses.cls ≠ "java/lang/invoke/VarHandle" ∧ (parseMethodDescriptor yX3_gatherMisses.desc).map (fun d => d.parameters.length) = some 1 := by decide +kernel
set_option maxHeartbeats 4000000 in
set_option maxRecDepth 100000 in
theorem c_X3_gatherMisses {l : Launch} {G : gT} {A : Nat → Prop} {H0 : Heap} {ro : Nat → Prop} {n hn : Nat} {L T : Nat → Int32} {o : List Nat} {sa fa ta ha : Nat → Nat} {F U : Nat → Nat → Int32} {aS aB aH xa ms9 : Nat} {rb : Nat → Nat} {ri : Nat → Int32} {ra : Nat → Nat → Int32} {mf : Nat → Int32} {i : Nat} (hxo : pt G xa (.inr (3, [.ref aS, .ref aB, .ref aH, .ref (rb 0), .ref ms9])) H0) (hcr : crO G ro n hn L T o sa fa ta ha F U aS aB aH H0) (hg : OK n hn L T) (ho : IsOrd (fun s => gL L s 0) n o) (hP : va_P (gD G) vC (rW G rb ri ra ++ [(ms9, eI G 16 mf)]) H0) (hD : va_D A (rW G rb ri ra ++ [(ms9, eI G 16 mf)])) (hro : ∀ q, ro q → ¬ A q) (hxA : ¬ A xa) (hi : i < n) : Met l yX3_gatherMisses wsX3_gatherMisses rmX3_gatherMisses (PHn G [.ref xa, .ref (sa i)] H0) (QH (oI fun r H1 => fr A H0 H1 ∧ r = nI (advL L T o i hn).length ∧ ∃ ri1 ra1 f1, va_P (gD G) vC (rW G rb ri1 ra1 ++ [(ms9, eI G 16 f1)]) H1 ∧ ls' f1 (advL L T o i hn).length = advL L T o i hn)) 0 0 A := by
  refine x_headn (bytes := cX3_gatherMisses) (maxL := 4) (ret := (some .int)) (by decide) rfl (Nat.le_of_ble_eq_true rfl) ?_
  intro p e s m below meth c ls hx hb hml hown hts hr hlk hnm hK hs0 hl Q hQ hN
  have hl : lv_has ls 4 [(0, .ref xa), (1, .ref (sa i))] := hl
  have hC : CallFix p m c cX3_gatherMisses 4 s [.ref xa, .ref (sa i)].toArray wsX3_gatherMisses RX3 := ⟨hx, hb, hml, hown, hts⟩
  have k_f19 := hts (.fieldLink RX3 19 "SundogLine" "halos" "Ljava/util/ArrayList;") (by decide +kernel)
  have in_X3 : ∀ w ∈ u_ws RX3 TX3 5, w ∈ wsX3_gatherMisses := by decide +kernel
  have k_cl102 := hts (.classLink RX3 102 RX0) (by decide +kernel)
  have k_f25 := hts (.fieldLink RX3 25 "SundogLine" "reckoning" "LSundogLine$Reckoning;") (by decide +kernel)
  have k_f16 := hts (.fieldLink RX3 16 "SundogLine" "byPlace" "Ljava/util/ArrayList;") (by decide +kernel)
  have k_f134 := hts (.fieldLink RX3 134 "SundogLine$Reckoning" "seen" "I") (by decide +kernel)
  have in_X1 : ∀ w ∈ u_ws RX1 TX1 11, w ∈ wsX3_gatherMisses := by decide +kernel
  have k_f29 := hts (.fieldLink RX3 29 "SundogLine" "misses" "[I") (by decide +kernel)
  have k_f108 := hts (.fieldLink RX3 108 "SundogLine$Station" "place" "I") (by decide +kernel)
  have in_X2 : ∀ w ∈ u_ws RX2 TX2 8, w ∈ wsX3_gatherMisses := by decide +kernel
  have hS : va_S A H0 H0 [] := va_S.rf
  have hn12 := hg.n
  have hh16 := hg.hn
  refine lv_iconst (v := nI 0) hx hb dX3_gatherMisses_0 (by decide +kernel) ?_
  refine lv_istore_n (lv' := [(2, .int (nI 0)), (0, .ref xa), (1, .ref (sa i))]) hx hb dX3_gatherMisses_1 rfl hl (by decide) rfl (fun ls hl => ?_)
  refine lv_iconst (v := nI 0) hx hb dX3_gatherMisses_2 (by decide +kernel) ?_
  refine lv_istore_n (lv' := [(3, .int (nI 0)), (2, .int (nI 0)), (0, .ref xa), (1, .ref (sa i))]) hx hb dX3_gatherMisses_3 rfl hl (by decide) rfl (fun ls hl => ?_)
  have loop_1 : ∀ (fu : Nat) (k : Nat) (rj : Nat → Int32) (sj : Nat → Nat → Int32) (f9 : Nat → Int32) (H : Heap) (locs : List Loc) (ls : Array Slot), hn - k < fu → (k ≤ hn) → (ls' f9 (advL L T o i k).length = (advL L T o i k)) → (va_P (gD G) vC (rW G rb rj sj ++ [(ms9, eI G 16 f9)]) H) → (va_S A H0 H locs) → lv_has ls 4 [(0, .ref xa), (1, .ref (sa i)), (2, .int (nI ((advL L T o i k).length))), (3, .int (nI k))] → W p l e rmX3_gatherMisses s m [.ref xa, .ref (sa i)].toArray below meth c H locs 0 0 Q (F0 m 4 ls []) := by
    intro fu
    induction fu with
    | zero => intro k rj sj f9 H locs ls hms hk hf hP hS hl; exact absurd hms (Nat.not_lt_zero _)
    | succ fu ih_1 =>
      intro k rj sj f9 H locs ls hms hk hf hP hS hl
      have hD : va_D A (rW G rb rj sj ++ [(ms9, eI G 16 f9)]) := hD.same rfl
      have hlen := advL_len L T o i k
      refine lv_iload_n hx hb dX3_gatherMisses_4 rfl (lv_at hl 3 rfl) ?_
      refine lv_aload_n hx hb dX3_gatherMisses_5 rfl (lv_at hl 0 rfl) ?_
      refine x_get (T := TX3) (N := 5) (v := .ref aH) hx hb hts in_X3 hown hK ((va_at.kept hxo (hS.2.1 _ hxo.lt hxA))) rfl 2 (by decide) k_f19 (fun _ h9 => h9) (rfl) dX3_gatherMisses_6 ?_
      refine x_rd (va_runV (As := []) (rest := [.int (nI k)]) hC (c_size ((hcr.at hS hro).lH)) (cwV 0 hts gX3_gatherMisses_Jx4a65c_size_8abf5 rfl rfl rfl qdJx4a65c_size_8abf5 ⟨Nat.le_of_ble_eq_true rfl, Nat.le_of_ble_eq_true rfl⟩) (x_preV hK (alR_recv hK ((hcr.at hS hro).lH))) rfl rfl hl.1 rfl (lv_room (Nat.le_of_ble_eq_true rfl)) dX3_gatherMisses_9 ⟨Nat.le_of_ble_eq_true rfl, Nat.le_of_ble_eq_true rfl⟩) ?_
      refine x_icmp_ge (tgt := 117) hx hb (by omega) (by omega) dX3_gatherMisses_12 (by decide) (fun c_2 => ?_) (fun c_2 => ?_)
      · refine lv_iload_n hx hb dX3_gatherMisses_117 rfl (lv_at hl 2 rfl) ?_
        have hjh : k = hn := by omega
        rw [hjh] at hf
        exact x_iret hQ hx hb hr rfl hlk hS.2.2 dX3_gatherMisses_118 ⟨hS.fr, by rw [hjh], _, _, _, hP, hf⟩
      · refine lv_aload_n hx hb dX3_gatherMisses_15 rfl (lv_at hl 1 rfl) ?_
        refine lv_aload_n hx hb dX3_gatherMisses_16 rfl (lv_at hl 0 rfl) ?_
        refine x_get (T := TX3) (N := 5) (v := .ref aH) hx hb hts in_X3 hown hK ((va_at.kept hxo (hS.2.1 _ hxo.lt hxA))) rfl 2 (by decide) k_f19 (fun _ h9 => h9) (rfl) dX3_gatherMisses_17 ?_
        refine lv_iload_n hx hb dX3_gatherMisses_20 rfl (lv_at hl 3 rfl) ?_
        refine x_rd (va_runV (As := [.int (nI k)]) (rest := [.ref (sa i)]) hC (c_get ((hcr.at hS hro).lH) (by omega)) (cwV 1 hts gX3_gatherMisses_Jx4a65c_get_915e3 rfl rfl rfl qdJx4a65c_get_915e3 ⟨Nat.le_of_ble_eq_true rfl, Nat.le_of_ble_eq_true rfl⟩) (x_preV hK (alR_recv hK ((hcr.at hS hro).lH))) rfl rfl hl.1 rfl (lv_room (Nat.le_of_ble_eq_true rfl)) dX3_gatherMisses_21 ⟨Nat.le_of_ble_eq_true rfl, Nat.le_of_ble_eq_true rfl⟩) ?_
        refine x_cast hx hb hown k_cl102 hK ((hcr.at hS hro).hal (show k < hn by omega)) rfl dX3_gatherMisses_24 ?_
        refine x_rd (va_runV (As := [.ref (ha k)]) (rest := []) hC (c_X2_sees ((hcr.at hS hro).st (show i < n by omega)) ((hcr.at hS hro).hal (show k < hn by omega)) (hg.2.1 _ (show i < n by omega)) (hg.2.2.1 _ (show k < hn by omega))) (cwV 1 hts gX3_gatherMisses_X2_sees rfl rfl rfl qdX2_sees ⟨Nat.le_of_ble_eq_true rfl, Nat.le_of_ble_eq_true rfl⟩) (x_preV hK (x_recv hK (((hcr.at hS hro).st (show i < n by omega)).1) rfl)) rfl rfl hl.1 rfl (lv_room (Nat.le_of_ble_eq_true rfl)) dX3_gatherMisses_27 ⟨Nat.le_of_ble_eq_true rfl, Nat.le_of_ble_eq_true rfl⟩) ?_
        refine x_if_eqB (tgt := 111) hx hb dX3_gatherMisses_30 (by decide) (fun c_3 => ?_) (fun c_3 => ?_)
        · have hadn : adB L T o i k = false := by rw [adB, show see L T k i = false from c_3, Bool.and_false]
          have hl : lv_has ls 4 [(0, .ref xa), (1, .ref (sa i)), (2, .int (nI ((advL L T o i (k + 1)).length))), (3, .int (nI k))] := by
            have e9 : (advL L T o i (k + 1)).length = (advL L T o i k).length := by rw [advL_n hadn]
            rw [e9]; exact hl
          refine lv_iinc (v := nI (k + 1)) (lv' := [(3, .int (nI (k + 1))), (0, .ref xa), (1, .ref (sa i)), (2, .int (nI ((advL L T o i (k + 1)).length)))]) hx hb dX3_gatherMisses_111 hl (k := 3) rfl (nI_incn _) (by decide) rfl (fun ls hl => ?_)
          refine lv_goto (tgt := 4) hx hb dX3_gatherMisses_114 (by decide) ?_
          exact ih_1 (k + 1) rj sj f9 _ _ ls (by omega) (by omega) (by rw [advL_n hadn]; exact hf) (hP) (hS) (lv_sub hl [1, 2, 3, 0] rfl)
        · refine lv_aload_n hx hb dX3_gatherMisses_33 rfl (lv_at hl 0 rfl) ?_
          refine x_get (T := TX3) (N := 5) (v := .ref (rb 0)) hx hb hts in_X3 hown hK ((va_at.kept hxo (hS.2.1 _ hxo.lt hxA))) rfl 3 (by decide) k_f25 (fun _ h9 => h9) (rfl) dX3_gatherMisses_34 ?_
          refine lv_aload_n hx hb dX3_gatherMisses_37 rfl (lv_at hl 0 rfl) ?_
          refine x_get (T := TX3) (N := 5) (v := .ref aH) hx hb hts in_X3 hown hK ((va_at.kept hxo (hS.2.1 _ hxo.lt hxA))) rfl 2 (by decide) k_f19 (fun _ h9 => h9) (rfl) dX3_gatherMisses_38 ?_
          refine lv_iload_n hx hb dX3_gatherMisses_41 rfl (lv_at hl 3 rfl) ?_
          refine x_rd (va_runV (As := [.int (nI k)]) (rest := [.ref (rb 0)]) hC (c_get ((hcr.at hS hro).lH) (by omega)) (cwV 1 hts gX3_gatherMisses_Jx4a65c_get_915e3 rfl rfl rfl qdJx4a65c_get_915e3 ⟨Nat.le_of_ble_eq_true rfl, Nat.le_of_ble_eq_true rfl⟩) (x_preV hK (alR_recv hK ((hcr.at hS hro).lH))) rfl rfl hl.1 rfl (lv_room (Nat.le_of_ble_eq_true rfl)) dX3_gatherMisses_42 ⟨Nat.le_of_ble_eq_true rfl, Nat.le_of_ble_eq_true rfl⟩) ?_
          refine x_cast hx hb hown k_cl102 hK ((hcr.at hS hro).hal (show k < hn by omega)) rfl dX3_gatherMisses_45 ?_
          refine lv_aload_n hx hb dX3_gatherMisses_48 rfl (lv_at hl 0 rfl) ?_
          refine x_get (T := TX3) (N := 5) (v := .ref aB) hx hb hts in_X3 hown hK ((va_at.kept hxo (hS.2.1 _ hxo.lt hxA))) rfl 1 (by decide) k_f16 (fun _ h9 => h9) (rfl) dX3_gatherMisses_49 ?_
          refine x_runv (va_runV (As := [.ref (ha k), .ref aB]) (rest := []) hC (c_X1_reckon (A := aset (rW G rb rj sj)) (va_Pl hP) (aset_D (va_Dl hD)) (hcr.at hS hro) (fun q h9 z => hro q h9 (aset_A (va_Dl hD) q z)) hg ho (show k < hn by omega)) (cwV 2 hts gX3_gatherMisses_X1_reckon rfl rfl rfl qdX1_reckon ⟨Nat.le_of_ble_eq_true rfl, Nat.le_of_ble_eq_true rfl⟩) (x_preVn hK hN (x_recv hK (hP 0 _ rfl) rfl)) rfl rfl hl.1 rfl (lv_room (Nat.le_of_ble_eq_true rfl)) dX3_gatherMisses_52 ⟨Nat.le_of_ble_eq_true rfl, Nat.le_of_ble_eq_true rfl⟩) hS (aset_A (va_Dl hD)) (fun H locs hfr hΦ hS => ?_)
          obtain ⟨rj4, sj4, hk4, hP9⟩ := hΦ
          have hP : va_P (gD G) vC (rW G rb rj4 sj4 ++ [(ms9, eI G 16 f9)]) H := ext_call hP hD hfr hP9
          have hD : va_D A (rW G rb rj4 sj4 ++ [(ms9, eI G 16 f9)]) := hD.same rfl
          have hM12 : (sqL L T o k).length ≤ 12 := Nat.le_trans (sqM_le ho) hn12
          refine lv_aload_n hx hb dX3_gatherMisses_55 rfl (lv_at hl 0 rfl) ?_
          refine x_get (T := TX3) (N := 5) (v := .ref (rb 0)) hx hb hts in_X3 hown hK ((va_at.kept hxo (hS.2.1 _ hxo.lt hxA))) rfl 3 (by decide) k_f25 (fun _ h9 => h9) (rfl) dX3_gatherMisses_56 ?_
          refine x_get (T := TX1) (N := 11) (v := .int (nI ((sqL L T o k).length))) hx hb hts in_X1 hown hK (hP 0 _ rfl) rfl 0 (by decide) k_f134 (fun _ h9 => h9) (congrArg (fun z => some (Value.int z)) hk4.1.1) dX3_gatherMisses_59 ?_
          refine lv_iconst (v := nI 3) hx hb dX3_gatherMisses_62 (by decide +kernel) ?_
          refine x_icmp_lt (tgt := 111) hx hb (by omega) (by omega) dX3_gatherMisses_63 (by decide) (fun c_5 => ?_) (fun c_5 => ?_)
          · have hadn : adB L T o i k = false := by rw [adB, decide_eq_false (show ¬ 3 ≤ sqM L T o k from Nat.not_le.mpr c_5)]; rfl
            have hl : lv_has ls 4 [(0, .ref xa), (1, .ref (sa i)), (2, .int (nI ((advL L T o i (k + 1)).length))), (3, .int (nI k))] := by
              have e9 : (advL L T o i (k + 1)).length = (advL L T o i k).length := by rw [advL_n hadn]
              rw [e9]; exact hl
            refine lv_iinc (v := nI (k + 1)) (lv' := [(3, .int (nI (k + 1))), (0, .ref xa), (1, .ref (sa i)), (2, .int (nI ((advL L T o i (k + 1)).length)))]) hx hb dX3_gatherMisses_111 hl (k := 3) rfl (nI_incn _) (by decide) rfl (fun ls hl => ?_)
            refine lv_goto (tgt := 4) hx hb dX3_gatherMisses_114 (by decide) ?_
            exact ih_1 (k + 1) rj4 sj4 f9 _ _ ls (by omega) (by omega) (by rw [advL_n hadn]; exact hf) (hP) (hS) (lv_sub hl [1, 2, 3, 0] rfl)
          · refine lv_iload_n hx hb dX3_gatherMisses_66 rfl (lv_at hl 2 rfl) ?_
            refine lv_aload_n hx hb dX3_gatherMisses_67 rfl (lv_at hl 0 rfl) ?_
            refine x_get (T := TX3) (N := 5) (v := .ref ms9) hx hb hts in_X3 hown hK ((va_at.kept hxo (hS.2.1 _ hxo.lt hxA))) rfl 4 (by decide) k_f29 (fun _ h9 => h9) (rfl) dX3_gatherMisses_68 ?_
            refine x_alen (t0 := 0) hx hb hK (hP 7 _ rfl) rfl dX3_gatherMisses_71 ?_
            refine x_icmp_ge (tgt := 111) hx hb (by omega) (by omega) dX3_gatherMisses_72 (by decide) (fun c_6 => ?_) (fun c_6 => ?_)
            · exact absurd c_6 (by omega)
            · have hady : adB L T o i k = true := by rw [adB, show see L T k i = true from c_3, decide_eq_true (show 3 ≤ sqM L T o k from c_5)]; rfl
              refine lv_aload_n hx hb dX3_gatherMisses_75 rfl (lv_at hl 0 rfl) ?_
              refine x_get (T := TX3) (N := 5) (v := .ref ms9) hx hb hts in_X3 hown hK ((va_at.kept hxo (hS.2.1 _ hxo.lt hxA))) rfl 4 (by decide) k_f29 (fun _ h9 => h9) (rfl) dX3_gatherMisses_76 ?_
              refine lv_iload_n hx hb dX3_gatherMisses_79 rfl (lv_at hl 2 rfl) ?_
              refine lv_aload_n hx hb dX3_gatherMisses_80 rfl (lv_at hl 1 rfl) ?_
              refine lv_aload_n hx hb dX3_gatherMisses_81 rfl (lv_at hl 0 rfl) ?_
              refine x_get (T := TX3) (N := 5) (v := .ref aH) hx hb hts in_X3 hown hK ((va_at.kept hxo (hS.2.1 _ hxo.lt hxA))) rfl 2 (by decide) k_f19 (fun _ h9 => h9) (rfl) dX3_gatherMisses_82 ?_
              refine lv_iload_n hx hb dX3_gatherMisses_85 rfl (lv_at hl 3 rfl) ?_
              refine x_rd (va_runV (As := [.int (nI k)]) (rest := [.ref (sa i), .int (nI ((advL L T o i k).length)), .ref ms9]) hC (c_get ((hcr.at hS hro).lH) (by omega)) (cwV 1 hts gX3_gatherMisses_Jx4a65c_get_915e3 rfl rfl rfl qdJx4a65c_get_915e3 ⟨Nat.le_of_ble_eq_true rfl, Nat.le_of_ble_eq_true rfl⟩) (x_preV hK (alR_recv hK ((hcr.at hS hro).lH))) rfl rfl hl.1 rfl (lv_room (Nat.le_of_ble_eq_true rfl)) dX3_gatherMisses_86 ⟨Nat.le_of_ble_eq_true rfl, Nat.le_of_ble_eq_true rfl⟩) ?_
              refine x_cast hx hb hown k_cl102 hK ((hcr.at hS hro).hal (show k < hn by omega)) rfl dX3_gatherMisses_89 ?_
              refine x_rd (va_runV (As := [.ref (ha k)]) (rest := [.int (nI ((advL L T o i k).length)), .ref ms9]) hC (c_X2_readingOf ((hcr.at hS hro).st (show i < n by omega)) ((hcr.at hS hro).hal (show k < hn by omega)) (hg.2.1 _ (show i < n by omega)) (hg.2.2.1 _ (show k < hn by omega))) (cwV 1 hts gX3_gatherMisses_X2_readingOf rfl rfl rfl qdX2_readingOf ⟨Nat.le_of_ble_eq_true rfl, Nat.le_of_ble_eq_true rfl⟩) (x_preV hK (x_recv hK (((hcr.at hS hro).st (show i < n by omega)).1) rfl)) rfl rfl hl.1 rfl (lv_room (Nat.le_of_ble_eq_true rfl)) dX3_gatherMisses_92 ⟨Nat.le_of_ble_eq_true rfl, Nat.le_of_ble_eq_true rfl⟩) ?_
              refine lv_aload_n hx hb dX3_gatherMisses_95 rfl (lv_at hl 0 rfl) ?_
              refine x_get (T := TX3) (N := 5) (v := .ref (rb 0)) hx hb hts in_X3 hown hK ((va_at.kept hxo (hS.2.1 _ hxo.lt hxA))) rfl 3 (by decide) k_f25 (fun _ h9 => h9) (rfl) dX3_gatherMisses_96 ?_
              refine lv_aload_n hx hb dX3_gatherMisses_99 rfl (lv_at hl 1 rfl) ?_
              refine x_get (T := TX2) (N := 8) (v := .int (gL L i 0)) hx hb hts in_X2 hown hK (((hcr.at hS hro).st (show i < n by omega)).1) rfl 1 (by decide) k_f108 (fun _ h9 => h9) (rfl) dX3_gatherMisses_100 ?_
              refine x_rd (va_runV (As := [.int (gL L i 0)]) (rest := [.int (rdg L T k i), .int (nI ((advL L T o i k).length)), .ref ms9]) hC (c_X1_guessAt (va_Pl hP) hk4.1.1 hM12) (cwV 1 hts gX3_gatherMisses_X1_guessAt rfl rfl rfl qdX1_guessAt ⟨Nat.le_of_ble_eq_true rfl, Nat.le_of_ble_eq_true rfl⟩) (x_preV hK (x_recv hK (hP 0 _ rfl) rfl)) rfl rfl hl.1 rfl (lv_room (Nat.le_of_ble_eq_true rfl)) dX3_gatherMisses_103 ⟨Nat.le_of_ble_eq_true rfl, Nat.le_of_ble_eq_true rfl⟩) ?_
              refine lv_isub hx hb dX3_gatherMisses_106 ?_
              refine W.eq (g2 := F0 m 107 ls [.int (rdg L T k i - gue L T o k i), .int (nI ((advL L T o i k).length)), .ref ms9]) (congrArg (fun z => F0 m 107 ls (.int z :: [.int (nI ((advL L T o i k).length)), .ref ms9])) (by rw [hk4.2.1.1, hk4.2.1.2.1]; rfl)) ?_
              refine x_iast hx hb hK hP hD hS 7 rfl (by omega) (by decide) dX3_gatherMisses_107 (fun H locs hP hD hS => ?_)
              have hP : va_P (gD G) vC (rW G rb rj4 sj4 ++ [(ms9, eI G 16 (upd f9 ((advL L T o i k).length) (rdg L T k i - gue L T o k i)))]) H := hP
              have hD : va_D A (rW G rb rj4 sj4 ++ [(ms9, eI G 16 (upd f9 ((advL L T o i k).length) (rdg L T k i - gue L T o k i)))]) := hD.same rfl
              refine lv_iinc (v := nI (((advL L T o i k).length) + 1)) (lv' := [(2, .int (nI (((advL L T o i k).length) + 1))), (0, .ref xa), (1, .ref (sa i)), (3, .int (nI k))]) hx hb dX3_gatherMisses_108 hl (k := 2) rfl (nI_incn _) (by decide) rfl (fun ls hl => ?_)
              have hl : lv_has ls 4 [(2, .int (nI ((advL L T o i (k + 1)).length))), (0, .ref xa), (1, .ref (sa i)), (3, .int (nI k))] := by
                have e9 : (advL L T o i (k + 1)).length = ((advL L T o i k).length) + 1 := advL_yl hady
                rw [e9]; exact hl
              refine lv_iinc (v := nI (k + 1)) (lv' := [(3, .int (nI (k + 1))), (2, .int (nI ((advL L T o i (k + 1)).length))), (0, .ref xa), (1, .ref (sa i))]) hx hb dX3_gatherMisses_111 hl (k := 3) rfl (nI_incn _) (by decide) rfl (fun ls hl => ?_)
              refine lv_goto (tgt := 4) hx hb dX3_gatherMisses_114 (by decide) ?_
              exact ih_1 (k + 1) rj4 sj4 (upd f9 ((advL L T o i k).length) (rdg L T k i - gue L T o k i)) _ _ ls (by omega) (by omega) (advL_upd hady hf) (hP) (hS) (lv_sub hl [2, 3, 1, 0] rfl)
  exact loop_1 _ 0 ri ra mf _ _ ls (Nat.lt_succ_self _) (Nat.zero_le _) (rfl) (hP) (hS) (lv_sub hl [2, 3, 1, 0] rfl)
abbrev rmX3_advise : Room := { frames := 6, cells := 1, slots := 6, locals := 134 }
theorem qdX3_advise : yX3_advise.cls = RX3 ∧ yX3_advise.cls ≠ "java/lang/invoke/MethodHandle" ∧ yX3_advise.cls ≠ "java/lang/invoke/VarHandle" ∧ (parseMethodDescriptor yX3_advise.desc).map (fun d => d.parameters.length) = some 1 := by decide +kernel
set_option maxHeartbeats 4000000 in
set_option maxRecDepth 100000 in
theorem c_X3_advise {l : Launch} {G : gT} {A : Nat → Prop} {H0 : Heap} {zA : Nat × Nat} {ro : Nat → Prop} {n hn : Nat} {L T : Nat → Int32} {o : List Nat} {sa fa ta ha : Nat → Nat} {F U : Nat → Nat → Int32} {aS aB aH xa ms9 : Nat} {rb : Nat → Nat} {ri : Nat → Int32} {ra : Nat → Nat → Int32} {mf : Nat → Int32} {x1 : Int32} (hxo : pt G xa (.inr (3, [.ref aS, .ref aB, .ref aH, .ref (rb 0), .ref ms9])) H0) (hcr : crO G ro n hn L T o sa fa ta ha F U aS aB aH H0) (hg : OK n hn L T) (ho : IsOrd (fun s => gL L s 0) n o) (hP : va_P (gD G) vC (rW G rb ri ra ++ [(ms9, eI G 16 mf)]) H0) (hD : va_D A (rW G rb ri ra ++ [(ms9, eI G 16 mf)])) (hro : ∀ q, ro q → ¬ A q) (hxA : ¬ A xa) (hst : l.stackTraces = false) : VzI G zA l yX3_advise wsX3_advise rmX3_advise [.ref xa, .int x1] H0 A 1 6 [eIX] (k1 (vS n x1)) (fun r H1 => (r = adv hn L T o x1.toNatClampNeg) ∧ ∃ ri1 ra1 f1, va_P (gD G) vC (rW G rb ri1 ra1 ++ [(ms9, eI G 16 f1)]) H1) := by
  refine x_headx (bytes := cX3_advise) (maxL := 4) (ret := (some .int)) (by decide) rfl (Nat.le_of_ble_eq_true rfl) ?_
  intro p e s m below meth c ls hx hb hml hown hts hr hlk hnm hK hs0 hl Q hQ hZ hxt
  have hl : lv_has ls 4 [(0, .ref xa), (1, .int x1)] := hl
  have hC : CallFix p m c cX3_advise 4 s [.ref xa, .int x1].toArray wsX3_advise RX3 := ⟨hx, hb, hml, hown, hts⟩
  have k_f12 := hts (.fieldLink RX3 12 "SundogLine" "stations" "Ljava/util/ArrayList;") (by decide +kernel)
  have in_X3 : ∀ w ∈ u_ws RX3 TX3 5, w ∈ wsX3_advise := by decide +kernel
  have k_cl51 := hts (.classLink RX3 51 "SundogLine$Station") (by decide +kernel)
  have k_f91 := hts (.fieldLink RX3 91 "SundogLine$Station" "correction" "I") (by decide +kernel)
  have in_X2 : ∀ w ∈ u_ws RX2 TX2 8, w ∈ wsX3_advise := by decide +kernel
  have k_f29 := hts (.fieldLink RX3 29 "SundogLine" "misses" "[I") (by decide +kernel)
  have k_cl70 := hts (.classLink RX3 70 eIX) (by decide +kernel)
  have k_inieIX := hts (.initialized eIX) (by decide +kernel)
  have at_eIX : ∀ w ∈ (vx_at0 RX3 72 eIX xN).filter goodWord, w ∈ wsX3_advise := by decide +kernel
  have hN := hZ.nn
  have hS : va_S A H0 H0 [] := va_S.rf
  have hn12 := hg.n
  have hh16 := hg.hn
  refine lv_aload_n hx hb dX3_advise_0 rfl (lv_at hl 0 rfl) ?_
  refine lv_iload_n hx hb dX3_advise_1 rfl (lv_at hl 1 rfl) ?_
  refine x_rd (va_runV (As := [.int x1]) (rest := []) hC (c_X3_noStation ((va_at.kept hxo (hS.2.1 _ hxo.lt hxA))) ((hcr.at hS hro)) hg) (cwV 1 hts gX3_advise_X3_noStation rfl rfl rfl qdX3_noStation ⟨Nat.le_of_ble_eq_true rfl, Nat.le_of_ble_eq_true rfl⟩) (x_preV hK (x_recv hK ((va_at.kept hxo (hS.2.1 _ hxo.lt hxA))) rfl)) rfl rfl hl.1 rfl (lv_room (Nat.le_of_ble_eq_true rfl)) dX3_advise_2 ⟨Nat.le_of_ble_eq_true rfl, Nat.le_of_ble_eq_true rfl⟩) ?_
  refine x_if_eqB (tgt := 16) hx hb dX3_advise_5 (by decide) (fun c_1 => ?_) (fun c_1 => ?_)
  · obtain ⟨i, hi, rfl⟩ := inR_nat (show n < 2 ^ 30 by omega) (bnf c_1)
    refine lv_aload_n hx hb dX3_advise_16 rfl (lv_at hl 0 rfl) ?_
    refine lv_aload_n hx hb dX3_advise_17 rfl (lv_at hl 0 rfl) ?_
    refine x_get (T := TX3) (N := 5) (v := .ref aS) hx hb hts in_X3 hown hK ((va_at.kept hxo (hS.2.1 _ hxo.lt hxA))) rfl 0 (by decide) k_f12 (fun _ h9 => h9) (rfl) dX3_advise_18 ?_
    refine lv_iload_n hx hb dX3_advise_21 rfl (lv_at hl 1 rfl) ?_
    refine x_rd (va_runV (As := [.int (nI i)]) (rest := [.ref xa]) hC (c_get ((hcr.at hS hro).lS) (by omega)) (cwV 1 hts gX3_advise_Jx4a65c_get_915e3 rfl rfl rfl qdJx4a65c_get_915e3 ⟨Nat.le_of_ble_eq_true rfl, Nat.le_of_ble_eq_true rfl⟩) (x_preV hK (alR_recv hK ((hcr.at hS hro).lS))) rfl rfl hl.1 rfl (lv_room (Nat.le_of_ble_eq_true rfl)) dX3_advise_22 ⟨Nat.le_of_ble_eq_true rfl, Nat.le_of_ble_eq_true rfl⟩) ?_
    refine x_cast hx hb hown k_cl51 hK (((hcr.at hS hro).st (show i < n by omega)).1) rfl dX3_advise_25 ?_
    refine x_runi (va_runV (As := [.ref (sa i)]) (rest := []) hC (c_X3_gatherMisses (A := A) (va_at.kept hxo (hS.2.1 _ hxo.lt hxA)) (hcr.at hS hro) hg ho hP hD hro hxA (show i < n by omega)) (cwV 1 hts gX3_advise_X3_gatherMisses rfl rfl rfl qdX3_gatherMisses ⟨Nat.le_of_ble_eq_true rfl, Nat.le_of_ble_eq_true rfl⟩) (x_preVn hK hN (x_recv hK ((va_at.kept hxo (hS.2.1 _ hxo.lt hxA))) rfl)) rfl rfl hl.1 rfl (lv_room (Nat.le_of_ble_eq_true rfl)) dX3_advise_28 ⟨Nat.le_of_ble_eq_true rfl, Nat.le_of_ble_eq_true rfl⟩) hS (fun _ h => h) (fun r_2 H locs hfr hΦ hS => ?_)
    obtain ⟨er_2, rj8, sj8, f8, hP, hf8⟩ := hΦ
    rw [er_2]
    have hP : va_P (gD G) vC (rW G rb rj8 sj8 ++ [(ms9, eI G 16 f8)]) H := hP
    have hD : va_D A (rW G rb rj8 sj8 ++ [(ms9, eI G 16 f8)]) := hD.same rfl
    have hlen := advL_len L T o i hn
    refine lv_istore_n (lv' := [(2, .int (nI ((advL L T o i hn).length))), (0, .ref xa), (1, .int (nI i))]) hx hb dX3_advise_31 rfl hl (by decide) rfl (fun ls hl => ?_)
    refine lv_aload_n hx hb dX3_advise_32 rfl (lv_at hl 1 rfl) ?_
    refine x_get (T := TX3) (N := 5) (v := .ref aS) hx hb hts in_X3 hown hK ((va_at.kept hxo (hS.2.1 _ hxo.lt hxA))) rfl 0 (by decide) k_f12 (fun _ h9 => h9) (rfl) dX3_advise_33 ?_
    refine lv_iload_n hx hb dX3_advise_36 rfl (lv_at hl 2 rfl) ?_
    refine x_rd (va_runV (As := [.int (nI i)]) (rest := []) hC (c_get ((hcr.at hS hro).lS) (by omega)) (cwV 1 hts gX3_advise_Jx4a65c_get_915e3 rfl rfl rfl qdJx4a65c_get_915e3 ⟨Nat.le_of_ble_eq_true rfl, Nat.le_of_ble_eq_true rfl⟩) (x_preV hK (alR_recv hK ((hcr.at hS hro).lS))) rfl rfl hl.1 rfl (lv_room (Nat.le_of_ble_eq_true rfl)) dX3_advise_37 ⟨Nat.le_of_ble_eq_true rfl, Nat.le_of_ble_eq_true rfl⟩) ?_
    refine x_cast hx hb hown k_cl51 hK (((hcr.at hS hro).st (show i < n by omega)).1) rfl dX3_advise_40 ?_
    refine x_get (T := TX2) (N := 8) (v := .int (gL L i 3)) hx hb hts in_X2 hown hK (((hcr.at hS hro).st (show i < n by omega)).1) rfl 4 (by decide) k_f91 (fun _ h9 => h9) (rfl) dX3_advise_43 ?_
    refine lv_istore_n (lv' := [(3, .int (gL L i 3)), (2, .int (nI ((advL L T o i hn).length))), (0, .ref xa), (1, .int (nI i))]) hx hb dX3_advise_46 rfl hl (by decide) rfl (fun ls hl => ?_)
    refine lv_iload_n hx hb dX3_advise_47 rfl (lv_at hl 1 rfl) ?_
    refine x_if_neN (tgt := 55) hx hb (by omega) dX3_advise_48 (by decide) (fun c_3 => ?_) (fun c_3 => ?_)
    · refine lv_iload_n hx hb dX3_advise_55 rfl (lv_at hl 0 rfl) ?_
      refine lv_aload_n hx hb dX3_advise_56 rfl (lv_at hl 2 rfl) ?_
      refine x_get (T := TX3) (N := 5) (v := .ref ms9) hx hb hts in_X3 hown hK ((va_at.kept hxo (hS.2.1 _ hxo.lt hxA))) rfl 4 (by decide) k_f29 (fun _ h9 => h9) (rfl) dX3_advise_57 ?_
      refine lv_iload_n hx hb dX3_advise_60 rfl (lv_at hl 1 rfl) ?_
      refine x_runi (va_runS (As := [.ref ms9, .int (nI ((advL L T o i hn).length))]) (rest := [.int (gL L i 3)]) hC (c_X3_middle (hP 7 _ rfl) (by omega) (by omega) (by omega)) (cwS 2 hts gX3_advise_X3_middle rfl rfl rfl qdX3_middle ⟨Nat.le_of_ble_eq_true rfl, Nat.le_of_ble_eq_true rfl⟩) (x_preS hK) rfl rfl hl.1 rfl (lv_room (Nat.le_of_ble_eq_true rfl)) dX3_advise_61 ⟨Nat.le_of_ble_eq_true rfl, Nat.le_of_ble_eq_true rfl⟩) hS (fun q h9 => by rw [h9]; exact hD.2 7 _ rfl) (fun r_4 H locs hfr hΦ hS => ?_)
      obtain ⟨er_4, f7, h7⟩ := hΦ
      have hP : va_P (gD G) vC (rW G rb rj8 sj8 ++ [(ms9, eI G 16 f7)]) H := cell_call (k := 7) hP hD rfl hfr h7
      have hD : va_D A (rW G rb rj8 sj8 ++ [(ms9, eI G 16 f7)]) := hD.same rfl
      refine lv_iadd hx hb dX3_advise_64 ?_
      have hkk9 : k1 (vS n (nI i)) = 0 := by simp only [k1, k2, k3, Bool.and_true, Bool.true_and, Bool.and_false, Bool.false_and, Bool.not_true, Bool.not_false, bnf c_1] <;> rfl
      refine W.widen (k := 1) (n := 6) (Nat.zero_le _) (Nat.zero_le _) ?_
      refine x_vxret hQ ?_
      exact x_iret rfl hx hb hr rfl hlk hS.2.2 dX3_advise_65 ⟨hS.fr, hkk9, ⟨by rw [nI_clamp (show i < 2 ^ 31 by omega), adv, if_neg (show ¬ (advL L T o i hn).length = 0 by omega)]; exact congrArg (fun z => gL L i 3 + z) (er_4.trans (congrArg midL hf8)), _, _, _, hP⟩⟩
    · refine lv_iload_n hx hb dX3_advise_51 rfl (lv_at hl 0 rfl) ?_
      refine lv_goto (tgt := 65) hx hb dX3_advise_52 (by decide) ?_
      have hkk9 : k1 (vS n (nI i)) = 0 := by simp only [k1, k2, k3, Bool.and_true, Bool.true_and, Bool.and_false, Bool.false_and, Bool.not_true, Bool.not_false, bnf c_1] <;> rfl
      refine W.widen (k := 1) (n := 6) (Nat.zero_le _) (Nat.zero_le _) ?_
      refine x_vxret hQ ?_
      exact x_iret rfl hx hb hr rfl hlk hS.2.2 dX3_advise_65 ⟨hS.fr, hkk9, ⟨by rw [nI_clamp (show i < 2 ^ 31 by omega), adv, if_pos (show (advL L T o i hn).length = 0 by omega)]; exact (Int32.add_zero _).symm, _, _, _, hP⟩⟩
  · have hkk9 : k1 (vS n x1) = 1 := by simp only [k1, k2, k3, Bool.and_true, Bool.true_and, Bool.and_false, Bool.false_and, Bool.not_true, Bool.not_false, bnt c_1] <;> rfl
    exact x_throw (cls := eIX) hQ hx hb hst hs0 hZ hS rfl hown (Or.inl rfl) (by decide) k_cl70 k_inieIX (fun w hw => hts w (at_eIX w hw)) xb_eIX xg_eIX (hl.1.trans hml.symm) dX3_advise_8 dX3_advise_11 dX3_advise_12 dX3_advise_15 hxt (Nat.le_of_ble_eq_true rfl) (Nat.le_of_ble_eq_true rfl) (Nat.le_of_ble_eq_true rfl) (Nat.le_of_ble_eq_true rfl) hlk hS.2.2 (by decide) (by decide) (by rw [hkk9]; exact ⟨by decide, rfl⟩)
