abbrev rmX3_digest : Room := { frames := 6, cells := 0, slots := 0, locals := 137 }
theorem qdX3_digest : yX3_digest.cls = RX3 ∧ yX3_digest.cls ≠ "java/lang/invoke/MethodHandle" ∧ yX3_digest.cls ≠ "java/lang/invoke/VarHandle" ∧ (parseMethodDescriptor yX3_digest.desc).map (fun d => d.parameters.length) = some 0 := by decide +kernel
set_option maxHeartbeats 4000000 in
set_option maxRecDepth 100000 in
theorem c_X3_digest {l : Launch} {G : gT} {A : Nat → Prop} {H0 : Heap} {ro : Nat → Prop} {n hn : Nat} {L T : Nat → Int32} {o : List Nat} {sa fa ta ha : Nat → Nat} {F U : Nat → Nat → Int32} {aS aB aH xa ms9 : Nat} {rb : Nat → Nat} {ri : Nat → Int32} {ra : Nat → Nat → Int32} (hxo : pt G xa (.inr (3, [.ref aS, .ref aB, .ref aH, .ref (rb 0), .ref ms9])) H0) (hcr : crO G ro n hn L T o sa fa ta ha F U aS aB aH H0) (hg : OK n hn L T) (ho : IsOrd (fun s => gL L s 0) n o) (hP : rP G rb ri ra H0) (hD : va_D A (rW G rb ri ra)) (hro : ∀ q, ro q → ¬ A q) (hxA : ¬ A xa) : Met l yX3_digest wsX3_digest rmX3_digest (PHn G [.ref xa] H0) (QH (oL fun r H1 => fr A H0 H1 ∧ r = dig n hn L T o ∧ ∃ ri1 ra1, rP G rb ri1 ra1 H1)) 0 0 A := by
  refine x_headn (bytes := cX3_digest) (maxL := 5) (ret := (some .long)) (by decide) rfl (Nat.le_of_ble_eq_true rfl) ?_
  intro p e s m below meth c ls hx hb hml hown hts hr hlk hnm hK hs0 hl Q hQ hN
  have hl : lv_has ls 5 [(0, .ref xa)] := hl
  have hC : CallFix p m c cX3_digest 5 s [.ref xa].toArray wsX3_digest RX3 := ⟨hx, hb, hml, hown, hts⟩
  have k_c176 := hts (.constantLong RX3 176 (521)) (by decide +kernel)
  have k_f12 := hts (.fieldLink RX3 12 "SundogLine" "stations" "Ljava/util/ArrayList;") (by decide +kernel)
  have in_X3 : ∀ w ∈ u_ws RX3 TX3 5, w ∈ wsX3_digest := by decide +kernel
  have k_f19 := hts (.fieldLink RX3 19 "SundogLine" "halos" "Ljava/util/ArrayList;") (by decide +kernel)
  have k_cl102 := hts (.classLink RX3 102 RX0) (by decide +kernel)
  have k_c178 := hts (.constantLong RX3 178 (31)) (by decide +kernel)
  have k_cl51 := hts (.classLink RX3 51 "SundogLine$Station") (by decide +kernel)
  have hS : va_S A H0 H0 [] := va_S.rf
  have hn12 := hg.n
  have hh16 := hg.hn
  refine lv_ldc2 (v := 521) hx hb hown k_c176 dX3_digest_0 ?_
  refine lv_lstore_n (lv' := [(1, .long 521), (0, .ref xa)]) hx hb dX3_digest_3 rfl hl (by decide) rfl (fun ls hl => ?_)
  refine lv_iconst (v := nI 0) hx hb dX3_digest_4 (by decide +kernel) ?_
  refine lv_istore_n (lv' := [(3, .int (nI 0)), (1, .long 521), (0, .ref xa)]) hx hb dX3_digest_5 rfl hl (by decide) rfl (fun ls hl => ?_)
  have loop_1 : ∀ (fu : Nat) (kk : Nat)  (ls : Array Slot), 5 - kk < fu → (kk ≤ 5) → lv_has ls 5 [(0, .ref xa), (1, .long (dfold 521 (cv n hn L T o) kk)), (3, .int (nI kk))] → W p l e rmX3_digest s m [.ref xa].toArray below meth c H0 [] 0 0 Q (F0 m 6 ls []) := by
    intro fu
    induction fu with
    | zero => intro kk ls hms hkk hl; exact absurd hms (Nat.not_lt_zero _)
    | succ fu ih_1 =>
      intro kk ls hms hkk hl
      refine lv_iload_n hx hb dX3_digest_6 rfl (lv_at hl 2 rfl) ?_
      refine lv_iconst (v := nI 5) hx hb dX3_digest_7 (by decide +kernel) ?_
      refine x_icmp_ge (tgt := 30) hx hb (by omega) (by omega) dX3_digest_8 (by decide) (fun c_2 => ?_) (fun c_2 => ?_)
      · have hl : lv_has ls 5 [(0, .ref xa), (1, .long (dfold 521 (cv n hn L T o) 5)), (3, .int (nI kk))] := by
          have e9 : (dfold 521 (cv n hn L T o) 5) = (dfold 521 (cv n hn L T o) kk) := by rw [show kk = 5 by omega]
          rw [e9]; exact hl
        refine lv_iconst (v := nI 0) hx hb dX3_digest_30 (by decide +kernel) ?_
        refine lv_istore_n (lv' := [(3, .int (nI 0)), (0, .ref xa), (1, .long (dfold 521 (cv n hn L T o) 5))]) hx hb dX3_digest_31 rfl hl (by decide) rfl (fun ls hl => ?_)
        have loop_3 : ∀ (fu : Nat) (ss : Nat)  (ls : Array Slot), n - ss < fu → (ss ≤ n) → lv_has ls 5 [(0, .ref xa), (1, .long (dgS (dfold 521 (cv n hn L T o) 5) hn L T ss)), (3, .int (nI ss))] → W p l e rmX3_digest s m [.ref xa].toArray below meth c H0 [] 0 0 Q (F0 m 32 ls []) := by
          intro fu
          induction fu with
          | zero => intro ss ls hms hss hl; exact absurd hms (Nat.not_lt_zero _)
          | succ fu ih_3 =>
            intro ss ls hms hss hl
            refine lv_iload_n hx hb dX3_digest_32 rfl (lv_at hl 2 rfl) ?_
            refine lv_aload_n hx hb dX3_digest_33 rfl (lv_at hl 0 rfl) ?_
            refine x_get (T := TX3) (N := 5) (v := .ref aS) hx hb hts in_X3 hown hK ((va_at.kept hxo (hS.2.1 _ hxo.lt hxA))) rfl 0 (by decide) k_f12 (fun _ h9 => h9) (rfl) dX3_digest_34 ?_
            refine x_rd (va_runV (As := []) (rest := [.int (nI ss)]) hC (c_size ((hcr.at hS hro).lS)) (cwV 0 hts gX3_digest_Jx4a65c_size_8abf5 rfl rfl rfl qdJx4a65c_size_8abf5 ⟨Nat.le_of_ble_eq_true rfl, Nat.le_of_ble_eq_true rfl⟩) (x_preV hK (alR_recv hK ((hcr.at hS hro).lS))) rfl rfl hl.1 rfl (lv_room (Nat.le_of_ble_eq_true rfl)) dX3_digest_37 ⟨Nat.le_of_ble_eq_true rfl, Nat.le_of_ble_eq_true rfl⟩) ?_
            refine x_icmp_ge (tgt := 90) hx hb (by omega) (by omega) dX3_digest_40 (by decide) (fun c_4 => ?_) (fun c_4 => ?_)
            · have hl : lv_has ls 5 [(0, .ref xa), (1, .long (dgS (dfold 521 (cv n hn L T o) 5) hn L T n)), (3, .int (nI ss))] := by
                have e9 : (dgS (dfold 521 (cv n hn L T o) 5) hn L T n) = (dgS (dfold 521 (cv n hn L T o) 5) hn L T ss) := by rw [show ss = n by omega]
                rw [e9]; exact hl
              refine lv_iconst (v := nI 0) hx hb dX3_digest_90 (by decide +kernel) ?_
              refine lv_istore_n (lv' := [(3, .int (nI 0)), (0, .ref xa), (1, .long (dgS (dfold 521 (cv n hn L T o) 5) hn L T n))]) hx hb dX3_digest_91 rfl hl (by decide) rfl (fun ls hl => ?_)
              have loop_5 : ∀ (fu : Nat) (k : Nat) (rj : Nat → Int32) (sj : Nat → Nat → Int32) (H : Heap) (locs : List Loc) (ls : Array Slot), hn - k < fu → (k ≤ hn) → (va_P (gD G) vC (rW G rb rj sj) H) → (va_S A H0 H locs) → lv_has ls 5 [(0, .ref xa), (1, .long (dgH (dgS (dfold 521 (cv n hn L T o) 5) hn L T n) n L T o k)), (3, .int (nI k))] → W p l e rmX3_digest s m [.ref xa].toArray below meth c H locs 0 0 Q (F0 m 92 ls []) := by
                intro fu
                induction fu with
                | zero => intro k rj sj H locs ls hms hk hP hS hl; exact absurd hms (Nat.not_lt_zero _)
                | succ fu ih_5 =>
                  intro k rj sj H locs ls hms hk hP hS hl
                  have hD : va_D A (rW G rb rj sj) := hD.same rfl
                  refine lv_iload_n hx hb dX3_digest_92 rfl (lv_at hl 2 rfl) ?_
                  refine lv_aload_n hx hb dX3_digest_93 rfl (lv_at hl 0 rfl) ?_
                  refine x_get (T := TX3) (N := 5) (v := .ref aH) hx hb hts in_X3 hown hK ((va_at.kept hxo (hS.2.1 _ hxo.lt hxA))) rfl 2 (by decide) k_f19 (fun _ h9 => h9) (rfl) dX3_digest_94 ?_
                  refine x_rd (va_runV (As := []) (rest := [.int (nI k)]) hC (c_size ((hcr.at hS hro).lH)) (cwV 0 hts gX3_digest_Jx4a65c_size_8abf5 rfl rfl rfl qdJx4a65c_size_8abf5 ⟨Nat.le_of_ble_eq_true rfl, Nat.le_of_ble_eq_true rfl⟩) (x_preV hK (alR_recv hK ((hcr.at hS hro).lH))) rfl rfl hl.1 rfl (lv_room (Nat.le_of_ble_eq_true rfl)) dX3_digest_97 ⟨Nat.le_of_ble_eq_true rfl, Nat.le_of_ble_eq_true rfl⟩) ?_
                  refine x_icmp_ge (tgt := 126) hx hb (by omega) (by omega) dX3_digest_100 (by decide) (fun c_6 => ?_) (fun c_6 => ?_)
                  · refine lv_lload_n hx hb dX3_digest_126 rfl (lv_at hl 1 rfl) ?_
                    exact x_lret hQ hx hb hr hlk hS.2.2 dX3_digest_127 ⟨hS.fr, by rw [show k = hn by omega]; rfl, _, _, hP⟩
                  · refine lv_aload_n hx hb dX3_digest_103 rfl (lv_at hl 0 rfl) ?_
                    refine lv_lload_n hx hb dX3_digest_104 rfl (lv_at hl 1 rfl) ?_
                    refine lv_aload_n hx hb dX3_digest_105 rfl (lv_at hl 0 rfl) ?_
                    refine x_get (T := TX3) (N := 5) (v := .ref aH) hx hb hts in_X3 hown hK ((va_at.kept hxo (hS.2.1 _ hxo.lt hxA))) rfl 2 (by decide) k_f19 (fun _ h9 => h9) (rfl) dX3_digest_106 ?_
                    refine lv_iload_n hx hb dX3_digest_109 rfl (lv_at hl 2 rfl) ?_
                    refine x_rd (va_runV (As := [.int (nI k)]) (rest := [.long (dgH (dgS (dfold 521 (cv n hn L T o) 5) hn L T n) n L T o k), .ref xa]) hC (c_get ((hcr.at hS hro).lH) (by omega)) (cwV 1 hts gX3_digest_Jx4a65c_get_915e3 rfl rfl rfl qdJx4a65c_get_915e3 ⟨Nat.le_of_ble_eq_true rfl, Nat.le_of_ble_eq_true rfl⟩) (x_preV hK (alR_recv hK ((hcr.at hS hro).lH))) rfl rfl hl.1 rfl (lv_room (Nat.le_of_ble_eq_true rfl)) dX3_digest_110 ⟨Nat.le_of_ble_eq_true rfl, Nat.le_of_ble_eq_true rfl⟩) ?_
                    refine x_cast hx hb hown k_cl102 hK ((hcr.at hS hro).hal (show k < hn by omega)) rfl dX3_digest_113 ?_
                    refine x_runl (va_runV (As := [.long (dgH (dgS (dfold 521 (cv n hn L T o) 5) hn L T n) n L T o k), .ref (ha k)]) (rest := []) hC (c_X3_digestHalo (A := A) (va_at.kept hxo (hS.2.1 _ hxo.lt hxA)) (hcr.at hS hro) hg ho hP hD hro hxA (show k < hn by omega)) (cwV 2 hts gX3_digest_X3_digestHalo rfl rfl rfl qdX3_digestHalo ⟨Nat.le_of_ble_eq_true rfl, Nat.le_of_ble_eq_true rfl⟩) (x_preVn hK hN (x_recv hK ((va_at.kept hxo (hS.2.1 _ hxo.lt hxA))) rfl)) rfl rfl hl.1 rfl (lv_room (Nat.le_of_ble_eq_true rfl)) dX3_digest_116 ⟨Nat.le_of_ble_eq_true rfl, Nat.le_of_ble_eq_true rfl⟩) hS (fun _ h => h) (fun r_7 H locs hfr hΦ hS => ?_)
                    obtain ⟨er_7, rju_8, sju_8, hP⟩ := hΦ
                    have hP : rP G rb rju_8 sju_8 H := hP
                    have hD : va_D A (rW G rb rju_8 sju_8) := hD.same rfl
                    rw [er_7]
                    refine lv_lstore_n (lv' := [(1, .long (dfold (dfold (dgH (dgS (dfold 521 (cv n hn L T o) 5) hn L T n) n L T o k) (hv L T o k) 7) (fun s => rdg L T k s) n)), (0, .ref xa), (3, .int (nI k))]) hx hb dX3_digest_119 rfl hl (by decide) rfl (fun ls hl => ?_)
                    have hl : lv_has ls 5 [(1, .long (dgH (dgS (dfold 521 (cv n hn L T o) 5) hn L T n) n L T o (k + 1))), (0, .ref xa), (3, .int (nI k))] := by
                      have e9 : (dgH (dgS (dfold 521 (cv n hn L T o) 5) hn L T n) n L T o (k + 1)) = (dfold (dfold (dgH (dgS (dfold 521 (cv n hn L T o) 5) hn L T n) n L T o k) (hv L T o k) 7) (fun s => rdg L T k s) n) := rfl
                      rw [e9]; exact hl
                    refine lv_iinc (v := nI (k + 1)) (lv' := [(3, .int (nI (k + 1))), (1, .long (dgH (dgS (dfold 521 (cv n hn L T o) 5) hn L T n) n L T o (k + 1))), (0, .ref xa)]) hx hb dX3_digest_120 hl (k := 2) rfl (nI_incn _) (by decide) rfl (fun ls hl => ?_)
                    refine lv_goto (tgt := 92) hx hb dX3_digest_123 (by decide) ?_
                    exact ih_5 (k + 1) rju_8 sju_8 _ _ ls (by omega) (by omega) (hP) (hS) (lv_sub hl [2, 1, 0] rfl)
              exact loop_5 _ 0 ri ra _ _ ls (Nat.lt_succ_self _) (Nat.zero_le _) (hP) (hS) (lv_sub hl [1, 2, 0] rfl)
            · refine lv_iconst (v := nI 0) hx hb dX3_digest_43 (by decide +kernel) ?_
              refine lv_istore (lv' := [(4, .int (nI 0)), (0, .ref xa), (1, .long (dgS (dfold 521 (cv n hn L T o) 5) hn L T ss)), (3, .int (nI ss))]) hx hb dX3_digest_44 hl (by decide) rfl (fun ls hl => ?_)
              have loop_9 : ∀ (fu : Nat) (kk : Nat)  (ls : Array Slot), 6 - kk < fu → (kk ≤ 6) → lv_has ls 5 [(0, .ref xa), (1, .long (dfold (dgS (dfold 521 (cv n hn L T o) 5) hn L T ss) (stV hn L T ss) kk)), (3, .int (nI ss)), (4, .int (nI kk))] → W p l e rmX3_digest s m [.ref xa].toArray below meth c H0 [] 0 0 Q (F0 m 46 ls []) := by
                intro fu
                induction fu with
                | zero => intro kk ls hms hkk hl; exact absurd hms (Nat.not_lt_zero _)
                | succ fu ih_9 =>
                  intro kk ls hms hkk hl
                  refine lv_iload hx hb dX3_digest_46 (lv_at hl 3 rfl) ?_
                  refine lv_bipush (v := nI 6) hx hb dX3_digest_48 (by decide +kernel) ?_
                  refine x_icmp_ge (tgt := 84) hx hb (by omega) (by omega) dX3_digest_50 (by decide) (fun c_10 => ?_) (fun c_10 => ?_)
                  · have hl : lv_has ls 5 [(0, .ref xa), (1, .long (dgS (dfold 521 (cv n hn L T o) 5) hn L T (ss + 1))), (3, .int (nI ss)), (4, .int (nI kk))] := by
                      have e9 : (dgS (dfold 521 (cv n hn L T o) 5) hn L T (ss + 1)) = (dfold (dgS (dfold 521 (cv n hn L T o) 5) hn L T ss) (stV hn L T ss) kk) := by rw [show kk = 6 by omega]; rfl
                      rw [e9]; exact hl
                    refine lv_iinc (v := nI (ss + 1)) (lv' := [(3, .int (nI (ss + 1))), (0, .ref xa), (1, .long (dgS (dfold 521 (cv n hn L T o) 5) hn L T (ss + 1))), (4, .int (nI kk))]) hx hb dX3_digest_84 hl (k := 2) rfl (nI_incn _) (by decide) rfl (fun ls hl => ?_)
                    refine lv_goto (tgt := 32) hx hb dX3_digest_87 (by decide) ?_
                    exact ih_3 (ss + 1) ls (by omega) (by omega) (lv_sub hl [1, 2, 0] rfl)
                  · refine lv_lload_n hx hb dX3_digest_53 rfl (lv_at hl 1 rfl) ?_
                    refine lv_ldc2 (v := 31) hx hb hown k_c178 dX3_digest_54 ?_
                    refine lv_lmul hx hb dX3_digest_57 ?_
                    refine lv_aload_n hx hb dX3_digest_58 rfl (lv_at hl 0 rfl) ?_
                    refine lv_aload_n hx hb dX3_digest_59 rfl (lv_at hl 0 rfl) ?_
                    refine x_get (T := TX3) (N := 5) (v := .ref aS) hx hb hts in_X3 hown hK ((va_at.kept hxo (hS.2.1 _ hxo.lt hxA))) rfl 0 (by decide) k_f12 (fun _ h9 => h9) (rfl) dX3_digest_60 ?_
                    refine lv_iload_n hx hb dX3_digest_63 rfl (lv_at hl 2 rfl) ?_
                    refine x_rd (va_runV (As := [.int (nI ss)]) (rest := [.ref xa, .long ((dfold (dgS (dfold 521 (cv n hn L T o) 5) hn L T ss) (stV hn L T ss) kk) * 31)]) hC (c_get ((hcr.at hS hro).lS) (by omega)) (cwV 1 hts gX3_digest_Jx4a65c_get_915e3 rfl rfl rfl qdJx4a65c_get_915e3 ⟨Nat.le_of_ble_eq_true rfl, Nat.le_of_ble_eq_true rfl⟩) (x_preV hK (alR_recv hK ((hcr.at hS hro).lS))) rfl rfl hl.1 rfl (lv_room (Nat.le_of_ble_eq_true rfl)) dX3_digest_64 ⟨Nat.le_of_ble_eq_true rfl, Nat.le_of_ble_eq_true rfl⟩) ?_
                    refine x_cast hx hb hown k_cl51 hK (((hcr.at hS hro).st (show ss < n by omega)).1) rfl dX3_digest_67 ?_
                    refine lv_iload hx hb dX3_digest_70 (lv_at hl 3 rfl) ?_
                    refine x_rd (va_runV (As := [.ref (sa ss), .int (nI kk)]) (rest := [.long ((dfold (dgS (dfold 521 (cv n hn L T o) 5) hn L T ss) (stV hn L T ss) kk) * 31)]) hC (c_X3_tellOfStation ((va_at.kept hxo (hS.2.1 _ hxo.lt hxA))) ((hcr.at hS hro)) hg (show ss < n by omega) (by omega)) (cwV 2 hts gX3_digest_X3_tellOfStation rfl rfl rfl qdX3_tellOfStation ⟨Nat.le_of_ble_eq_true rfl, Nat.le_of_ble_eq_true rfl⟩) (x_preV hK (x_recv hK ((va_at.kept hxo (hS.2.1 _ hxo.lt hxA))) rfl)) rfl rfl hl.1 rfl (lv_room (Nat.le_of_ble_eq_true rfl)) dX3_digest_72 ⟨Nat.le_of_ble_eq_true rfl, Nat.le_of_ble_eq_true rfl⟩) ?_
                    refine lv_i2l (v := (stV hn L T ss kk).toInt64) hx hb dX3_digest_75 rfl ?_
                    refine lv_ladd hx hb dX3_digest_76 ?_
                    refine lv_lstore_n (lv' := [(1, .long (((dfold (dgS (dfold 521 (cv n hn L T o) 5) hn L T ss) (stV hn L T ss) kk) * 31) + ((stV hn L T ss kk).toInt64))), (0, .ref xa), (3, .int (nI ss)), (4, .int (nI kk))]) hx hb dX3_digest_77 rfl hl (by decide) rfl (fun ls hl => ?_)
                    refine lv_iinc (v := nI (kk + 1)) (lv' := [(4, .int (nI (kk + 1))), (1, .long (((dfold (dgS (dfold 521 (cv n hn L T o) 5) hn L T ss) (stV hn L T ss) kk) * 31) + ((stV hn L T ss kk).toInt64))), (0, .ref xa), (3, .int (nI ss))]) hx hb dX3_digest_78 hl (k := 3) rfl (nI_incn _) (by decide) rfl (fun ls hl => ?_)
                    refine lv_goto (tgt := 46) hx hb dX3_digest_81 (by decide) ?_
                    exact ih_9 (kk + 1) ls (by omega) (by omega) (lv_sub hl [2, 1, 3, 0] rfl)
              exact loop_9 _ 0 ls (Nat.lt_succ_self _) (Nat.zero_le _) (lv_sub hl [1, 2, 3, 0] rfl)
        exact loop_3 _ 0 ls (Nat.lt_succ_self _) (Nat.zero_le _) (lv_sub hl [1, 2, 0] rfl)
      · refine lv_lload_n hx hb dX3_digest_11 rfl (lv_at hl 1 rfl) ?_
        refine lv_ldc2 (v := 31) hx hb hown k_c178 dX3_digest_12 ?_
        refine lv_lmul hx hb dX3_digest_15 ?_
        refine lv_aload_n hx hb dX3_digest_16 rfl (lv_at hl 0 rfl) ?_
        refine lv_iload_n hx hb dX3_digest_17 rfl (lv_at hl 2 rfl) ?_
        refine x_rd (va_runV (As := [.int (nI kk)]) (rest := [.long ((dfold 521 (cv n hn L T o) kk) * 31)]) hC (c_X3_countOf ((va_at.kept hxo (hS.2.1 _ hxo.lt hxA))) ((hcr.at hS hro)) hg ho (by omega)) (cwV 1 hts gX3_digest_X3_countOf rfl rfl rfl qdX3_countOf ⟨Nat.le_of_ble_eq_true rfl, Nat.le_of_ble_eq_true rfl⟩) (x_preV hK (x_recv hK ((va_at.kept hxo (hS.2.1 _ hxo.lt hxA))) rfl)) rfl rfl hl.1 rfl (lv_room (Nat.le_of_ble_eq_true rfl)) dX3_digest_18 ⟨Nat.le_of_ble_eq_true rfl, Nat.le_of_ble_eq_true rfl⟩) ?_
        refine lv_i2l (v := (cv n hn L T o kk).toInt64) hx hb dX3_digest_21 rfl ?_
        refine lv_ladd hx hb dX3_digest_22 ?_
        refine lv_lstore_n (lv' := [(1, .long (((dfold 521 (cv n hn L T o) kk) * 31) + ((cv n hn L T o kk).toInt64))), (0, .ref xa), (3, .int (nI kk))]) hx hb dX3_digest_23 rfl hl (by decide) rfl (fun ls hl => ?_)
        refine lv_iinc (v := nI (kk + 1)) (lv' := [(3, .int (nI (kk + 1))), (1, .long (((dfold 521 (cv n hn L T o) kk) * 31) + ((cv n hn L T o kk).toInt64))), (0, .ref xa)]) hx hb dX3_digest_24 hl (k := 2) rfl (nI_incn _) (by decide) rfl (fun ls hl => ?_)
        refine lv_goto (tgt := 6) hx hb dX3_digest_27 (by decide) ?_
        exact ih_1 (kk + 1) ls (by omega) (by omega) (lv_sub hl [2, 1, 0] rfl)
  exact loop_1 _ 0 ls (Nat.lt_succ_self _) (Nat.zero_le _) (lv_sub hl [2, 1, 0] rfl)
