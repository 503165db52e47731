abbrev rmL_build : Room := { frames := 8, cells := 5, slots := 60, locals := 186 }
theorem qdL_build : yL_build.cls = RL ∧ yL_build.cls ≠ "java/lang/invoke/MethodHandle" ∧ yL_build.cls ≠ "java/lang/invoke/VarHandle" ∧ (parseMethodDescriptor yL_build.desc).map (fun d => d.parameters.length) = some 5 := by decide +kernel
set_option maxHeartbeats 4000000 in
set_option maxRecDepth 100000 in
theorem c_L_build {l : Launch} {G : gT} {A : Nat → Prop} {H0 : Heap} {zA : Nat × Nat} {xa oA k : Nat} {fx : List Value} {ov : Nat → Int64} {Φ : Int32 → Heap → Prop} {x1 x2 x3 : Int32} (hM : VzI G zA l yX3_build wsX3_build rmX3_build [.ref xa, .int x1, .int x2, .int x3] H0 A 5 60 [eIA, eIS] k Φ) (hxo : pt G xa (.inr (3, fx)) H0) (ho : pt G oA (eL G 1 ov) H0) (hoA : ¬ A oA) : Met l yL_build wsL_build rmL_build (PHw G zA (fun q => A q ∨ q = oA) [.ref xa, .int x1, .int x2, .int x3, .ref oA] H0) (QH (oI fun r H1 => fr (fun q => A q ∨ q = oA) H0 H1 ∧ wrQ G A oA ov H0 k Φ r H1)) 5 60 (fun q => A q ∨ q = oA) := by
  refine x_headw (bytes := cL_build) (maxL := 6) (ret := (some .int)) (by decide) rfl (Nat.le_of_ble_eq_true rfl) ?_
  intro p e s m below meth c ls hx hb hml hown hts hr hlk hnm hK hs0 hl Q hQ hZ hN hxt
  have hl : lv_has ls 6 [(0, .ref xa), (1, .int x1), (2, .int x2), (3, .int x3), (4, .ref oA)] := hl
  have hC : CallFix p m c cL_build 6 s [.ref xa, .int x1, .int x2, .int x3, .ref oA].toArray wsL_build RL := ⟨hx, hb, hml, hown, hts⟩
  have k_cl13 := hts (.classLink RL 13 eIA) (by decide +kernel)
  have k_cl15 := hts (.classLink RL 15 eIS) (by decide +kernel)
  have hS : va_S (fun q => A q ∨ q = oA) H0 H0 [] := va_S.rf
  refine lv_aload hx hb dL_build_0 (lv_at hl 4 rfl) ?_
  refine lv_iconst (v := nI 0) hx hb dL_build_2 (by decide +kernel) ?_
  refine lv_aload_n hx hb dL_build_3 rfl (lv_at hl 0 rfl) ?_
  refine lv_iload_n hx hb dL_build_4 rfl (lv_at hl 1 rfl) ?_
  refine lv_iload_n hx hb dL_build_5 rfl (lv_at hl 2 rfl) ?_
  refine lv_iload_n hx hb dL_build_6 rfl (lv_at hl 3 rfl) ?_
  refine x_callx (vx_runV (As := [.int x1, .int x2, .int x3]) (rest := [.int (nI 0), .ref oA]) hC hM (cwV 3 hts gL_build_X3_build rfl rfl rfl qdX3_build ⟨Nat.le_of_ble_eq_true rfl, Nat.le_of_ble_eq_true rfl⟩) (x_preVz hK (hZ.narrow (fun q h9 => Or.inl h9)) (x_recv hK hxo rfl)) rfl rfl hl.1 rfl (lv_room (Nat.le_of_ble_eq_true rfl)) dL_build_7 ⟨Nat.le_of_ble_eq_true rfl, Nat.le_of_ble_eq_true rfl⟩) hS (fun _ h => Or.inl h) (fun E ce q9 H locs hk hE hfr hS hc1 hc2 hc3 => ?_) (fun r H2 locs hk hfr hΦ hS => ?_)
  · rcases thr2 hk hE with ⟨e9, hk9⟩ | ⟨e9, hk9⟩
    · rw [e9] at hc3
      refine vx_catch (E := eIA) (name := eIA) hown [] ⟨0, 12, 15, 13⟩ [⟨0, 12, 19, 15⟩] (hxt.trans rfl) (fun z hz => nomatch hz) (by decide) (by decide) k_cl13 (va_Nw.use rfl hZ.kx.1.2.1) hc1 hc2 hc3 ?_
      refine W.eq (g2 := F0 m 15 ls [.ref q9]) rfl ?_
      refine lv_astore (lv' := [(5, .ref q9), (0, .ref xa), (1, .int x1), (2, .int x2), (3, .int x3), (4, .ref oA)]) hx hb dL_build_15 hl (by decide) rfl (fun ls hl => ?_)
      refine lv_iconst (v := nI 1) hx hb dL_build_17 (by decide +kernel) ?_
      exact x_iret hQ hx hb hr rfl hlk hS.2.2 dL_build_18 ⟨hS.fr, by rw [hk9], Or.inr ⟨hk, hfr⟩⟩
    · rw [e9] at hc3
      refine vx_catch (E := eIS) (name := eIS) hown [⟨0, 12, 15, 13⟩] ⟨0, 12, 19, 15⟩ [] (hxt.trans rfl) (fun z hz => by have h := List.mem_singleton.mp hz; exact Or.inr ⟨by rw [h]; decide, eIA, by rw [h]; exact k_cl13, hN.2.2⟩) (by decide) (by decide) k_cl15 (va_Nw.use rfl hZ.kx.1.2.2) hc1 hc2 hc3 ?_
      refine W.eq (g2 := F0 m 19 ls [.ref q9]) rfl ?_
      refine lv_astore (lv' := [(5, .ref q9), (0, .ref xa), (1, .int x1), (2, .int x2), (3, .int x3), (4, .ref oA)]) hx hb dL_build_19 hl (by decide) rfl (fun ls hl => ?_)
      refine lv_iconst (v := nI 2) hx hb dL_build_21 (by decide +kernel) ?_
      exact x_iret hQ hx hb hr rfl hlk hS.2.2 dL_build_22 ⟨hS.fr, by rw [hk9], Or.inr ⟨hk, hfr⟩⟩
  · refine lv_i2l (v := r.toInt64) hx hb dL_build_10 rfl ?_
    have ho1 := va_at.kept ho (hfr.2 _ (va_at.lt ho) hoA)
    refine x_lastF hx hb hK hS ho1 (Or.inr rfl) dL_build_11 (fun H locs hfo hpo hS => ?_)
    refine lv_goto (tgt := 23) hx hb dL_build_12 (by decide) ?_
    refine lv_iconst (v := nI 0) hx hb dL_build_23 (by decide +kernel) ?_
    exact x_iret hQ hx hb hr rfl hlk hS.2.2 dL_build_24 ⟨hS.fr, by rw [hk], Or.inl ⟨hk, r, H2, hfr, hΦ, hfo, hpo⟩⟩
abbrev rmL_cloud : Room := { frames := 7, cells := 1, slots := 6, locals := 114 }
theorem qdL_cloud : yL_cloud.cls = RL ∧ yL_cloud.cls ≠ "java/lang/invoke/MethodHandle" ∧ yL_cloud.cls ≠ "java/lang/invoke/VarHandle" ∧ (parseMethodDescriptor yL_cloud.desc).map (fun d => d.parameters.length) = some 5 := by decide +kernel
set_option maxHeartbeats 4000000 in
set_option maxRecDepth 100000 in
theorem c_L_cloud {l : Launch} {G : gT} {A : Nat → Prop} {H0 : Heap} {zA : Nat × Nat} {xa oA k : Nat} {fx : List Value} {ov : Nat → Int64} {Φ : Int32 → Heap → Prop} {x1 x2 x3 : Int32} (hM : VzI G zA l yX3_cloud wsX3_cloud rmX3_cloud [.ref xa, .int x1, .int x2, .int x3] H0 A 1 6 [eIX, eIA, eIS] k Φ) (hxo : pt G xa (.inr (3, fx)) H0) (ho : pt G oA (eL G 1 ov) H0) (hoA : ¬ A oA) : Met l yL_cloud wsL_cloud rmL_cloud (PHw G zA (fun q => A q ∨ q = oA) [.ref xa, .int x1, .int x2, .int x3, .ref oA] H0) (QH (oI fun r H1 => fr (fun q => A q ∨ q = oA) H0 H1 ∧ wrQ G A oA ov H0 k Φ r H1)) 1 6 (fun q => A q ∨ q = oA) := by
  refine x_headw (bytes := cL_cloud) (maxL := 6) (ret := (some .int)) (by decide) rfl (Nat.le_of_ble_eq_true rfl) ?_
  intro p e s m below meth c ls hx hb hml hown hts hr hlk hnm hK hs0 hl Q hQ hZ hN hxt
  have hl : lv_has ls 6 [(0, .ref xa), (1, .int x1), (2, .int x2), (3, .int x3), (4, .ref oA)] := hl
  have hC : CallFix p m c cL_cloud 6 s [.ref xa, .int x1, .int x2, .int x3, .ref oA].toArray wsL_cloud RL := ⟨hx, hb, hml, hown, hts⟩
  have k_cl20 := hts (.classLink RL 20 eIX) (by decide +kernel)
  have k_cl13 := hts (.classLink RL 13 eIA) (by decide +kernel)
  have k_cl15 := hts (.classLink RL 15 eIS) (by decide +kernel)
  have hS : va_S (fun q => A q ∨ q = oA) H0 H0 [] := va_S.rf
  refine lv_aload hx hb dL_cloud_0 (lv_at hl 4 rfl) ?_
  refine lv_iconst (v := nI 0) hx hb dL_cloud_2 (by decide +kernel) ?_
  refine lv_aload_n hx hb dL_cloud_3 rfl (lv_at hl 0 rfl) ?_
  refine lv_iload_n hx hb dL_cloud_4 rfl (lv_at hl 1 rfl) ?_
  refine lv_iload_n hx hb dL_cloud_5 rfl (lv_at hl 2 rfl) ?_
  refine lv_iload_n hx hb dL_cloud_6 rfl (lv_at hl 3 rfl) ?_
  refine x_callx (vx_runV (As := [.int x1, .int x2, .int x3]) (rest := [.int (nI 0), .ref oA]) hC hM (cwV 3 hts gL_cloud_X3_cloud rfl rfl rfl qdX3_cloud ⟨Nat.le_of_ble_eq_true rfl, Nat.le_of_ble_eq_true rfl⟩) (x_preVz hK (hZ.narrow (fun q h9 => Or.inl h9)) (x_recv hK hxo rfl)) rfl rfl hl.1 rfl (lv_room (Nat.le_of_ble_eq_true rfl)) dL_cloud_7 ⟨Nat.le_of_ble_eq_true rfl, Nat.le_of_ble_eq_true rfl⟩) hS (fun _ h => Or.inl h) (fun E ce q9 H locs hk hE hfr hS hc1 hc2 hc3 => ?_) (fun r H2 locs hk hfr hΦ hS => ?_)
  · rcases thr3 hk hE with ⟨e9, hk9⟩ | ⟨e9, hk9⟩ | ⟨e9, hk9⟩
    · rw [e9] at hc3
      refine vx_catch (E := eIX) (name := eIX) hown [] ⟨0, 12, 15, 20⟩ [⟨0, 12, 19, 13⟩, ⟨0, 12, 23, 15⟩] (hxt.trans rfl) (fun z hz => nomatch hz) (by decide) (by decide) k_cl20 (va_Nw.use rfl hZ.kx.1.1) hc1 hc2 hc3 ?_
      refine W.eq (g2 := F0 m 15 ls [.ref q9]) rfl ?_
      refine lv_astore (lv' := [(5, .ref q9), (0, .ref xa), (1, .int x1), (2, .int x2), (3, .int x3), (4, .ref oA)]) hx hb dL_cloud_15 hl (by decide) rfl (fun ls hl => ?_)
      refine lv_iconst (v := nI 1) hx hb dL_cloud_17 (by decide +kernel) ?_
      exact x_iret hQ hx hb hr rfl hlk hS.2.2 dL_cloud_18 ⟨hS.fr, by rw [hk9], Or.inr ⟨hk, hfr⟩⟩
    · rw [e9] at hc3
      refine vx_catch (E := eIA) (name := eIA) hown [⟨0, 12, 15, 20⟩] ⟨0, 12, 19, 13⟩ [⟨0, 12, 23, 15⟩] (hxt.trans rfl) (fun z hz => by have h := List.mem_singleton.mp hz; exact Or.inr ⟨by rw [h]; decide, eIX, by rw [h]; exact k_cl20, hN.1⟩) (by decide) (by decide) k_cl13 (va_Nw.use rfl hZ.kx.1.2.1) hc1 hc2 hc3 ?_
      refine W.eq (g2 := F0 m 19 ls [.ref q9]) rfl ?_
      refine lv_astore (lv' := [(5, .ref q9), (0, .ref xa), (1, .int x1), (2, .int x2), (3, .int x3), (4, .ref oA)]) hx hb dL_cloud_19 hl (by decide) rfl (fun ls hl => ?_)
      refine lv_iconst (v := nI 2) hx hb dL_cloud_21 (by decide +kernel) ?_
      exact x_iret hQ hx hb hr rfl hlk hS.2.2 dL_cloud_22 ⟨hS.fr, by rw [hk9], Or.inr ⟨hk, hfr⟩⟩
    · rw [e9] at hc3
      refine vx_catch (E := eIS) (name := eIS) hown [⟨0, 12, 15, 20⟩, ⟨0, 12, 19, 13⟩] ⟨0, 12, 23, 15⟩ [] (hxt.trans rfl) (fun z hz => by rcases List.mem_cons.mp hz with h | h; exact Or.inr ⟨by rw [h]; decide, eIX, by rw [h]; exact k_cl20, hN.2.1⟩; have h := List.mem_singleton.mp h; exact Or.inr ⟨by rw [h]; decide, eIA, by rw [h]; exact k_cl13, hN.2.2⟩) (by decide) (by decide) k_cl15 (va_Nw.use rfl hZ.kx.1.2.2) hc1 hc2 hc3 ?_
      refine W.eq (g2 := F0 m 23 ls [.ref q9]) rfl ?_
      refine lv_astore (lv' := [(5, .ref q9), (0, .ref xa), (1, .int x1), (2, .int x2), (3, .int x3), (4, .ref oA)]) hx hb dL_cloud_23 hl (by decide) rfl (fun ls hl => ?_)
      refine lv_iconst (v := nI 3) hx hb dL_cloud_25 (by decide +kernel) ?_
      exact x_iret hQ hx hb hr rfl hlk hS.2.2 dL_cloud_26 ⟨hS.fr, by rw [hk9], Or.inr ⟨hk, hfr⟩⟩
  · refine lv_i2l (v := r.toInt64) hx hb dL_cloud_10 rfl ?_
    have ho1 := va_at.kept ho (hfr.2 _ (va_at.lt ho) hoA)
    refine x_lastF hx hb hK hS ho1 (Or.inr rfl) dL_cloud_11 (fun H locs hfo hpo hS => ?_)
    refine lv_goto (tgt := 27) hx hb dL_cloud_12 (by decide) ?_
    refine lv_iconst (v := nI 0) hx hb dL_cloud_27 (by decide +kernel) ?_
    exact x_iret hQ hx hb hr rfl hlk hS.2.2 dL_cloud_28 ⟨hS.fr, by rw [hk], Or.inl ⟨hk, r, H2, hfr, hΦ, hfo, hpo⟩⟩
abbrev rmL_clear : Room := { frames := 7, cells := 1, slots := 6, locals := 113 }
theorem qdL_clear : yL_clear.cls = RL ∧ yL_clear.cls ≠ "java/lang/invoke/MethodHandle" ∧ yL_clear.cls ≠ "java/lang/invoke/VarHandle" ∧ (parseMethodDescriptor yL_clear.desc).map (fun d => d.parameters.length) = some 3 := by decide +kernel
set_option maxHeartbeats 4000000 in
set_option maxRecDepth 100000 in
theorem c_L_clear {l : Launch} {G : gT} {A : Nat → Prop} {H0 : Heap} {zA : Nat × Nat} {xa oA k : Nat} {fx : List Value} {ov : Nat → Int64} {Φ : Int32 → Heap → Prop} {x1 : Int32} (hM : VzI G zA l yX3_clear wsX3_clear rmX3_clear [.ref xa, .int x1] H0 A 1 6 [eIX] k Φ) (hxo : pt G xa (.inr (3, fx)) H0) (ho : pt G oA (eL G 1 ov) H0) (hoA : ¬ A oA) : Met l yL_clear wsL_clear rmL_clear (PHw G zA (fun q => A q ∨ q = oA) [.ref xa, .int x1, .ref oA] H0) (QH (oI fun r H1 => fr (fun q => A q ∨ q = oA) H0 H1 ∧ wrQ G A oA ov H0 k Φ r H1)) 1 6 (fun q => A q ∨ q = oA) := by
  refine x_headw (bytes := cL_clear) (maxL := 4) (ret := (some .int)) (by decide) rfl (Nat.le_of_ble_eq_true rfl) ?_
  intro p e s m below meth c ls hx hb hml hown hts hr hlk hnm hK hs0 hl Q hQ hZ hN hxt
  have hl : lv_has ls 4 [(0, .ref xa), (1, .int x1), (2, .ref oA)] := hl
  have hC : CallFix p m c cL_clear 4 s [.ref xa, .int x1, .ref oA].toArray wsL_clear RL := ⟨hx, hb, hml, hown, hts⟩
  have k_cl20 := hts (.classLink RL 20 eIX) (by decide +kernel)
  have hS : va_S (fun q => A q ∨ q = oA) H0 H0 [] := va_S.rf
  refine lv_aload_n hx hb dL_clear_0 rfl (lv_at hl 2 rfl) ?_
  refine lv_iconst (v := nI 0) hx hb dL_clear_1 (by decide +kernel) ?_
  refine lv_aload_n hx hb dL_clear_2 rfl (lv_at hl 0 rfl) ?_
  refine lv_iload_n hx hb dL_clear_3 rfl (lv_at hl 1 rfl) ?_
  refine x_callx (vx_runV (As := [.int x1]) (rest := [.int (nI 0), .ref oA]) hC hM (cwV 1 hts gL_clear_X3_clear rfl rfl rfl qdX3_clear ⟨Nat.le_of_ble_eq_true rfl, Nat.le_of_ble_eq_true rfl⟩) (x_preVz hK (hZ.narrow (fun q h9 => Or.inl h9)) (x_recv hK hxo rfl)) rfl rfl hl.1 rfl (lv_room (Nat.le_of_ble_eq_true rfl)) dL_clear_4 ⟨Nat.le_of_ble_eq_true rfl, Nat.le_of_ble_eq_true rfl⟩) hS (fun _ h => Or.inl h) (fun E ce q9 H locs hk hE hfr hS hc1 hc2 hc3 => ?_) (fun r H2 locs hk hfr hΦ hS => ?_)
  · obtain ⟨e9, hk9⟩ := thr1 hk hE
    rw [e9] at hc3
    refine vx_catch (E := eIX) (name := eIX) hown [] ⟨0, 9, 12, 20⟩ [] (hxt.trans rfl) (fun z hz => nomatch hz) (by decide) (by decide) k_cl20 (va_Nw.use rfl hZ.kx.1.1) hc1 hc2 hc3 ?_
    refine W.eq (g2 := F0 m 12 ls [.ref q9]) rfl ?_
    refine lv_astore_n (lv' := [(3, .ref q9), (0, .ref xa), (1, .int x1), (2, .ref oA)]) hx hb dL_clear_12 rfl hl (by decide) rfl (fun ls hl => ?_)
    refine lv_iconst (v := nI 1) hx hb dL_clear_13 (by decide +kernel) ?_
    exact x_iret hQ hx hb hr rfl hlk hS.2.2 dL_clear_14 ⟨hS.fr, by rw [hk9], Or.inr ⟨hk, hfr⟩⟩
  · refine lv_i2l (v := r.toInt64) hx hb dL_clear_7 rfl ?_
    have ho1 := va_at.kept ho (hfr.2 _ (va_at.lt ho) hoA)
    refine x_lastF hx hb hK hS ho1 (Or.inr rfl) dL_clear_8 (fun H locs hfo hpo hS => ?_)
    refine lv_goto (tgt := 15) hx hb dL_clear_9 (by decide) ?_
    refine lv_iconst (v := nI 0) hx hb dL_clear_15 (by decide +kernel) ?_
    exact x_iret hQ hx hb hr rfl hlk hS.2.2 dL_clear_16 ⟨hS.fr, by rw [hk], Or.inl ⟨hk, r, H2, hfr, hΦ, hfo, hpo⟩⟩
abbrev rmL_correct : Room := { frames := 7, cells := 1, slots := 6, locals := 114 }
theorem qdL_correct : yL_correct.cls = RL ∧ yL_correct.cls ≠ "java/lang/invoke/MethodHandle" ∧ yL_correct.cls ≠ "java/lang/invoke/VarHandle" ∧ (parseMethodDescriptor yL_correct.desc).map (fun d => d.parameters.length) = some 4 := by decide +kernel
set_option maxHeartbeats 4000000 in
set_option maxRecDepth 100000 in
theorem c_L_correct {l : Launch} {G : gT} {A : Nat → Prop} {H0 : Heap} {zA : Nat × Nat} {xa oA k : Nat} {fx : List Value} {ov : Nat → Int64} {Φ : Int32 → Heap → Prop} {x1 x2 : Int32} (hM : VzI G zA l yX3_correct wsX3_correct rmX3_correct [.ref xa, .int x1, .int x2] H0 A 1 6 [eIX, eIA] k Φ) (hxo : pt G xa (.inr (3, fx)) H0) (ho : pt G oA (eL G 1 ov) H0) (hoA : ¬ A oA) : Met l yL_correct wsL_correct rmL_correct (PHw G zA (fun q => A q ∨ q = oA) [.ref xa, .int x1, .int x2, .ref oA] H0) (QH (oI fun r H1 => fr (fun q => A q ∨ q = oA) H0 H1 ∧ wrQ G A oA ov H0 k Φ r H1)) 1 6 (fun q => A q ∨ q = oA) := by
  refine x_headw (bytes := cL_correct) (maxL := 5) (ret := (some .int)) (by decide) rfl (Nat.le_of_ble_eq_true rfl) ?_
  intro p e s m below meth c ls hx hb hml hown hts hr hlk hnm hK hs0 hl Q hQ hZ hN hxt
  have hl : lv_has ls 5 [(0, .ref xa), (1, .int x1), (2, .int x2), (3, .ref oA)] := hl
  have hC : CallFix p m c cL_correct 5 s [.ref xa, .int x1, .int x2, .ref oA].toArray wsL_correct RL := ⟨hx, hb, hml, hown, hts⟩
  have k_cl20 := hts (.classLink RL 20 eIX) (by decide +kernel)
  have k_cl13 := hts (.classLink RL 13 eIA) (by decide +kernel)
  have hS : va_S (fun q => A q ∨ q = oA) H0 H0 [] := va_S.rf
  refine lv_aload_n hx hb dL_correct_0 rfl (lv_at hl 3 rfl) ?_
  refine lv_iconst (v := nI 0) hx hb dL_correct_1 (by decide +kernel) ?_
  refine lv_aload_n hx hb dL_correct_2 rfl (lv_at hl 0 rfl) ?_
  refine lv_iload_n hx hb dL_correct_3 rfl (lv_at hl 1 rfl) ?_
  refine lv_iload_n hx hb dL_correct_4 rfl (lv_at hl 2 rfl) ?_
  refine x_callx (vx_runV (As := [.int x1, .int x2]) (rest := [.int (nI 0), .ref oA]) hC hM (cwV 2 hts gL_correct_X3_correct rfl rfl rfl qdX3_correct ⟨Nat.le_of_ble_eq_true rfl, Nat.le_of_ble_eq_true rfl⟩) (x_preVz hK (hZ.narrow (fun q h9 => Or.inl h9)) (x_recv hK hxo rfl)) rfl rfl hl.1 rfl (lv_room (Nat.le_of_ble_eq_true rfl)) dL_correct_5 ⟨Nat.le_of_ble_eq_true rfl, Nat.le_of_ble_eq_true rfl⟩) hS (fun _ h => Or.inl h) (fun E ce q9 H locs hk hE hfr hS hc1 hc2 hc3 => ?_) (fun r H2 locs hk hfr hΦ hS => ?_)
  · rcases thr2 hk hE with ⟨e9, hk9⟩ | ⟨e9, hk9⟩
    · rw [e9] at hc3
      refine vx_catch (E := eIX) (name := eIX) hown [] ⟨0, 10, 13, 20⟩ [⟨0, 10, 17, 13⟩] (hxt.trans rfl) (fun z hz => nomatch hz) (by decide) (by decide) k_cl20 (va_Nw.use rfl hZ.kx.1.1) hc1 hc2 hc3 ?_
      refine W.eq (g2 := F0 m 13 ls [.ref q9]) rfl ?_
      refine lv_astore (lv' := [(4, .ref q9), (0, .ref xa), (1, .int x1), (2, .int x2), (3, .ref oA)]) hx hb dL_correct_13 hl (by decide) rfl (fun ls hl => ?_)
      refine lv_iconst (v := nI 1) hx hb dL_correct_15 (by decide +kernel) ?_
      exact x_iret hQ hx hb hr rfl hlk hS.2.2 dL_correct_16 ⟨hS.fr, by rw [hk9], Or.inr ⟨hk, hfr⟩⟩
    · rw [e9] at hc3
      refine vx_catch (E := eIA) (name := eIA) hown [⟨0, 10, 13, 20⟩] ⟨0, 10, 17, 13⟩ [] (hxt.trans rfl) (fun z hz => by have h := List.mem_singleton.mp hz; exact Or.inr ⟨by rw [h]; decide, eIX, by rw [h]; exact k_cl20, hN.1⟩) (by decide) (by decide) k_cl13 (va_Nw.use rfl hZ.kx.1.2.1) hc1 hc2 hc3 ?_
      refine W.eq (g2 := F0 m 17 ls [.ref q9]) rfl ?_
      refine lv_astore (lv' := [(4, .ref q9), (0, .ref xa), (1, .int x1), (2, .int x2), (3, .ref oA)]) hx hb dL_correct_17 hl (by decide) rfl (fun ls hl => ?_)
      refine lv_iconst (v := nI 2) hx hb dL_correct_19 (by decide +kernel) ?_
      exact x_iret hQ hx hb hr rfl hlk hS.2.2 dL_correct_20 ⟨hS.fr, by rw [hk9], Or.inr ⟨hk, hfr⟩⟩
  · refine lv_i2l (v := r.toInt64) hx hb dL_correct_8 rfl ?_
    have ho1 := va_at.kept ho (hfr.2 _ (va_at.lt ho) hoA)
    refine x_lastF hx hb hK hS ho1 (Or.inr rfl) dL_correct_9 (fun H locs hfo hpo hS => ?_)
    refine lv_goto (tgt := 21) hx hb dL_correct_10 (by decide) ?_
    refine lv_iconst (v := nI 0) hx hb dL_correct_21 (by decide +kernel) ?_
    exact x_iret hQ hx hb hr rfl hlk hS.2.2 dL_correct_22 ⟨hS.fr, by rw [hk], Or.inl ⟨hk, r, H2, hfr, hΦ, hfo, hpo⟩⟩
abbrev rmL_station : Room := { frames := 7, cells := 1, slots := 6, locals := 131 }
theorem qdL_station : yL_station.cls = RL ∧ yL_station.cls ≠ "java/lang/invoke/MethodHandle" ∧ yL_station.cls ≠ "java/lang/invoke/VarHandle" ∧ (parseMethodDescriptor yL_station.desc).map (fun d => d.parameters.length) = some 4 := by decide +kernel
set_option maxHeartbeats 4000000 in
set_option maxRecDepth 100000 in
theorem c_L_station {l : Launch} {G : gT} {A : Nat → Prop} {H0 : Heap} {zA : Nat × Nat} {xa oA k : Nat} {fx : List Value} {ov : Nat → Int64} {Φ : Int32 → Heap → Prop} {x1 x2 : Int32} (hM : VzI G zA l yX3_station wsX3_station rmX3_station [.ref xa, .int x1, .int x2] H0 A 1 6 [eIX] k Φ) (hxo : pt G xa (.inr (3, fx)) H0) (ho : pt G oA (eL G 1 ov) H0) (hoA : ¬ A oA) : Met l yL_station wsL_station rmL_station (PHw G zA (fun q => A q ∨ q = oA) [.ref xa, .int x1, .int x2, .ref oA] H0) (QH (oI fun r H1 => fr (fun q => A q ∨ q = oA) H0 H1 ∧ wrQ G A oA ov H0 k Φ r H1)) 1 6 (fun q => A q ∨ q = oA) := by
  refine x_headw (bytes := cL_station) (maxL := 5) (ret := (some .int)) (by decide) rfl (Nat.le_of_ble_eq_true rfl) ?_
  intro p e s m below meth c ls hx hb hml hown hts hr hlk hnm hK hs0 hl Q hQ hZ hN hxt
  have hl : lv_has ls 5 [(0, .ref xa), (1, .int x1), (2, .int x2), (3, .ref oA)] := hl
  have hC : CallFix p m c cL_station 5 s [.ref xa, .int x1, .int x2, .ref oA].toArray wsL_station RL := ⟨hx, hb, hml, hown, hts⟩
  have k_cl20 := hts (.classLink RL 20 eIX) (by decide +kernel)
  have hS : va_S (fun q => A q ∨ q = oA) H0 H0 [] := va_S.rf
  refine lv_aload_n hx hb dL_station_0 rfl (lv_at hl 3 rfl) ?_
  refine lv_iconst (v := nI 0) hx hb dL_station_1 (by decide +kernel) ?_
  refine lv_aload_n hx hb dL_station_2 rfl (lv_at hl 0 rfl) ?_
  refine lv_iload_n hx hb dL_station_3 rfl (lv_at hl 1 rfl) ?_
  refine lv_iload_n hx hb dL_station_4 rfl (lv_at hl 2 rfl) ?_
  refine x_callx (vx_runV (As := [.int x1, .int x2]) (rest := [.int (nI 0), .ref oA]) hC hM (cwV 2 hts gL_station_X3_station rfl rfl rfl qdX3_station ⟨Nat.le_of_ble_eq_true rfl, Nat.le_of_ble_eq_true rfl⟩) (x_preVz hK (hZ.narrow (fun q h9 => Or.inl h9)) (x_recv hK hxo rfl)) rfl rfl hl.1 rfl (lv_room (Nat.le_of_ble_eq_true rfl)) dL_station_5 ⟨Nat.le_of_ble_eq_true rfl, Nat.le_of_ble_eq_true rfl⟩) hS (fun _ h => Or.inl h) (fun E ce q9 H locs hk hE hfr hS hc1 hc2 hc3 => ?_) (fun r H2 locs hk hfr hΦ hS => ?_)
  · obtain ⟨e9, hk9⟩ := thr1 hk hE
    rw [e9] at hc3
    refine vx_catch (E := eIX) (name := eIX) hown [] ⟨0, 10, 13, 20⟩ [] (hxt.trans rfl) (fun z hz => nomatch hz) (by decide) (by decide) k_cl20 (va_Nw.use rfl hZ.kx.1.1) hc1 hc2 hc3 ?_
    refine W.eq (g2 := F0 m 13 ls [.ref q9]) rfl ?_
    refine lv_astore (lv' := [(4, .ref q9), (0, .ref xa), (1, .int x1), (2, .int x2), (3, .ref oA)]) hx hb dL_station_13 hl (by decide) rfl (fun ls hl => ?_)
    refine lv_iconst (v := nI 1) hx hb dL_station_15 (by decide +kernel) ?_
    exact x_iret hQ hx hb hr rfl hlk hS.2.2 dL_station_16 ⟨hS.fr, by rw [hk9], Or.inr ⟨hk, hfr⟩⟩
  · refine lv_i2l (v := r.toInt64) hx hb dL_station_8 rfl ?_
    have ho1 := va_at.kept ho (hfr.2 _ (va_at.lt ho) hoA)
    refine x_lastF hx hb hK hS ho1 (Or.inr rfl) dL_station_9 (fun H locs hfo hpo hS => ?_)
    refine lv_goto (tgt := 17) hx hb dL_station_10 (by decide) ?_
    refine lv_iconst (v := nI 0) hx hb dL_station_17 (by decide +kernel) ?_
    exact x_iret hQ hx hb hr rfl hlk hS.2.2 dL_station_18 ⟨hS.fr, by rw [hk], Or.inl ⟨hk, r, H2, hfr, hΦ, hfo, hpo⟩⟩
abbrev rmL_clock : Room := { frames := 7, cells := 1, slots := 6, locals := 112 }
theorem qdL_clock : yL_clock.cls = RL ∧ yL_clock.cls ≠ "java/lang/invoke/MethodHandle" ∧ yL_clock.cls ≠ "java/lang/invoke/VarHandle" ∧ (parseMethodDescriptor yL_clock.desc).map (fun d => d.parameters.length) = some 4 := by decide +kernel
set_option maxHeartbeats 4000000 in
set_option maxRecDepth 100000 in
theorem c_L_clock {l : Launch} {G : gT} {A : Nat → Prop} {H0 : Heap} {zA : Nat × Nat} {xa oA k : Nat} {fx : List Value} {ov : Nat → Int64} {Φ : Int32 → Heap → Prop} {x1 x2 : Int32} (hM : VzI G zA l yX3_clock wsX3_clock rmX3_clock [.ref xa, .int x1, .int x2] H0 A 1 6 [eIX, eIA] k Φ) (hxo : pt G xa (.inr (3, fx)) H0) (ho : pt G oA (eL G 1 ov) H0) (hoA : ¬ A oA) : Met l yL_clock wsL_clock rmL_clock (PHw G zA (fun q => A q ∨ q = oA) [.ref xa, .int x1, .int x2, .ref oA] H0) (QH (oI fun r H1 => fr (fun q => A q ∨ q = oA) H0 H1 ∧ wrQ G A oA ov H0 k Φ r H1)) 1 6 (fun q => A q ∨ q = oA) := by
  refine x_headw (bytes := cL_clock) (maxL := 5) (ret := (some .int)) (by decide) rfl (Nat.le_of_ble_eq_true rfl) ?_
  intro p e s m below meth c ls hx hb hml hown hts hr hlk hnm hK hs0 hl Q hQ hZ hN hxt
  have hl : lv_has ls 5 [(0, .ref xa), (1, .int x1), (2, .int x2), (3, .ref oA)] := hl
  have hC : CallFix p m c cL_clock 5 s [.ref xa, .int x1, .int x2, .ref oA].toArray wsL_clock RL := ⟨hx, hb, hml, hown, hts⟩
  have k_cl20 := hts (.classLink RL 20 eIX) (by decide +kernel)
  have k_cl13 := hts (.classLink RL 13 eIA) (by decide +kernel)
  have hS : va_S (fun q => A q ∨ q = oA) H0 H0 [] := va_S.rf
  refine lv_aload_n hx hb dL_clock_0 rfl (lv_at hl 3 rfl) ?_
  refine lv_iconst (v := nI 0) hx hb dL_clock_1 (by decide +kernel) ?_
  refine lv_aload_n hx hb dL_clock_2 rfl (lv_at hl 0 rfl) ?_
  refine lv_iload_n hx hb dL_clock_3 rfl (lv_at hl 1 rfl) ?_
  refine lv_iload_n hx hb dL_clock_4 rfl (lv_at hl 2 rfl) ?_
  refine x_callx (vx_runV (As := [.int x1, .int x2]) (rest := [.int (nI 0), .ref oA]) hC hM (cwV 2 hts gL_clock_X3_clock rfl rfl rfl qdX3_clock ⟨Nat.le_of_ble_eq_true rfl, Nat.le_of_ble_eq_true rfl⟩) (x_preVz hK (hZ.narrow (fun q h9 => Or.inl h9)) (x_recv hK hxo rfl)) rfl rfl hl.1 rfl (lv_room (Nat.le_of_ble_eq_true rfl)) dL_clock_5 ⟨Nat.le_of_ble_eq_true rfl, Nat.le_of_ble_eq_true rfl⟩) hS (fun _ h => Or.inl h) (fun E ce q9 H locs hk hE hfr hS hc1 hc2 hc3 => ?_) (fun r H2 locs hk hfr hΦ hS => ?_)
  · rcases thr2 hk hE with ⟨e9, hk9⟩ | ⟨e9, hk9⟩
    · rw [e9] at hc3
      refine vx_catch (E := eIX) (name := eIX) hown [] ⟨0, 10, 13, 20⟩ [⟨0, 10, 17, 13⟩] (hxt.trans rfl) (fun z hz => nomatch hz) (by decide) (by decide) k_cl20 (va_Nw.use rfl hZ.kx.1.1) hc1 hc2 hc3 ?_
      refine W.eq (g2 := F0 m 13 ls [.ref q9]) rfl ?_
      refine lv_astore (lv' := [(4, .ref q9), (0, .ref xa), (1, .int x1), (2, .int x2), (3, .ref oA)]) hx hb dL_clock_13 hl (by decide) rfl (fun ls hl => ?_)
      refine lv_iconst (v := nI 1) hx hb dL_clock_15 (by decide +kernel) ?_
      exact x_iret hQ hx hb hr rfl hlk hS.2.2 dL_clock_16 ⟨hS.fr, by rw [hk9], Or.inr ⟨hk, hfr⟩⟩
    · rw [e9] at hc3
      refine vx_catch (E := eIA) (name := eIA) hown [⟨0, 10, 13, 20⟩] ⟨0, 10, 17, 13⟩ [] (hxt.trans rfl) (fun z hz => by have h := List.mem_singleton.mp hz; exact Or.inr ⟨by rw [h]; decide, eIX, by rw [h]; exact k_cl20, hN.1⟩) (by decide) (by decide) k_cl13 (va_Nw.use rfl hZ.kx.1.2.1) hc1 hc2 hc3 ?_
      refine W.eq (g2 := F0 m 17 ls [.ref q9]) rfl ?_
      refine lv_astore (lv' := [(4, .ref q9), (0, .ref xa), (1, .int x1), (2, .int x2), (3, .ref oA)]) hx hb dL_clock_17 hl (by decide) rfl (fun ls hl => ?_)
      refine lv_iconst (v := nI 2) hx hb dL_clock_19 (by decide +kernel) ?_
      exact x_iret hQ hx hb hr rfl hlk hS.2.2 dL_clock_20 ⟨hS.fr, by rw [hk9], Or.inr ⟨hk, hfr⟩⟩
  · refine lv_i2l (v := r.toInt64) hx hb dL_clock_8 rfl ?_
    have ho1 := va_at.kept ho (hfr.2 _ (va_at.lt ho) hoA)
    refine x_lastF hx hb hK hS ho1 (Or.inr rfl) dL_clock_9 (fun H locs hfo hpo hS => ?_)
    refine lv_goto (tgt := 21) hx hb dL_clock_10 (by decide) ?_
    refine lv_iconst (v := nI 0) hx hb dL_clock_21 (by decide +kernel) ?_
    exact x_iret hQ hx hb hr rfl hlk hS.2.2 dL_clock_22 ⟨hS.fr, by rw [hk], Or.inl ⟨hk, r, H2, hfr, hΦ, hfo, hpo⟩⟩
abbrev rmL_addHalo : Room := { frames := 8, cells := 2, slots := 26, locals := 185 }
theorem qdL_addHalo : yL_addHalo.cls = RL ∧ yL_addHalo.cls ≠ "java/lang/invoke/MethodHandle" ∧ yL_addHalo.cls ≠ "java/lang/invoke/VarHandle" ∧ (parseMethodDescriptor yL_addHalo.desc).map (fun d => d.parameters.length) = some 6 := by decide +kernel
set_option maxHeartbeats 4000000 in
set_option maxRecDepth 100000 in
theorem c_L_addHalo {l : Launch} {G : gT} {A : Nat → Prop} {H0 : Heap} {zA : Nat × Nat} {xa oA k : Nat} {fx : List Value} {ov : Nat → Int64} {Φ : Int32 → Heap → Prop} {x1 x2 x3 x4 : Int32} (hM : VzI G zA l yX3_addHalo wsX3_addHalo rmX3_addHalo [.ref xa, .int x1, .int x2, .int x3, .int x4] H0 A 2 26 [eIA, eIS] k Φ) (hxo : pt G xa (.inr (3, fx)) H0) (ho : pt G oA (eL G 1 ov) H0) (hoA : ¬ A oA) : Met l yL_addHalo wsL_addHalo rmL_addHalo (PHw G zA (fun q => A q ∨ q = oA) [.ref xa, .int x1, .int x2, .int x3, .int x4, .ref oA] H0) (QH (oI fun r H1 => fr (fun q => A q ∨ q = oA) H0 H1 ∧ wrQ G A oA ov H0 k Φ r H1)) 2 26 (fun q => A q ∨ q = oA) := by
  refine x_headw (bytes := cL_addHalo) (maxL := 7) (ret := (some .int)) (by decide) rfl (Nat.le_of_ble_eq_true rfl) ?_
  intro p e s m below meth c ls hx hb hml hown hts hr hlk hnm hK hs0 hl Q hQ hZ hN hxt
  have hl : lv_has ls 7 [(0, .ref xa), (1, .int x1), (2, .int x2), (3, .int x3), (4, .int x4), (5, .ref oA)] := hl
  have hC : CallFix p m c cL_addHalo 7 s [.ref xa, .int x1, .int x2, .int x3, .int x4, .ref oA].toArray wsL_addHalo RL := ⟨hx, hb, hml, hown, hts⟩
  have k_cl13 := hts (.classLink RL 13 eIA) (by decide +kernel)
  have k_cl15 := hts (.classLink RL 15 eIS) (by decide +kernel)
  have hS : va_S (fun q => A q ∨ q = oA) H0 H0 [] := va_S.rf
  refine lv_aload hx hb dL_addHalo_0 (lv_at hl 5 rfl) ?_
  refine lv_iconst (v := nI 0) hx hb dL_addHalo_2 (by decide +kernel) ?_
  refine lv_aload_n hx hb dL_addHalo_3 rfl (lv_at hl 0 rfl) ?_
  refine lv_iload_n hx hb dL_addHalo_4 rfl (lv_at hl 1 rfl) ?_
  refine lv_iload_n hx hb dL_addHalo_5 rfl (lv_at hl 2 rfl) ?_
  refine lv_iload_n hx hb dL_addHalo_6 rfl (lv_at hl 3 rfl) ?_
  refine lv_iload hx hb dL_addHalo_7 (lv_at hl 4 rfl) ?_
  refine x_callx (vx_runV (As := [.int x1, .int x2, .int x3, .int x4]) (rest := [.int (nI 0), .ref oA]) hC hM (cwV 4 hts gL_addHalo_X3_addHalo rfl rfl rfl qdX3_addHalo ⟨Nat.le_of_ble_eq_true rfl, Nat.le_of_ble_eq_true rfl⟩) (x_preVz hK (hZ.narrow (fun q h9 => Or.inl h9)) (x_recv hK hxo rfl)) rfl rfl hl.1 rfl (lv_room (Nat.le_of_ble_eq_true rfl)) dL_addHalo_9 ⟨Nat.le_of_ble_eq_true rfl, Nat.le_of_ble_eq_true rfl⟩) hS (fun _ h => Or.inl h) (fun E ce q9 H locs hk hE hfr hS hc1 hc2 hc3 => ?_) (fun r H2 locs hk hfr hΦ hS => ?_)
  · rcases thr2 hk hE with ⟨e9, hk9⟩ | ⟨e9, hk9⟩
    · rw [e9] at hc3
      refine vx_catch (E := eIA) (name := eIA) hown [] ⟨0, 14, 17, 13⟩ [⟨0, 14, 21, 15⟩] (hxt.trans rfl) (fun z hz => nomatch hz) (by decide) (by decide) k_cl13 (va_Nw.use rfl hZ.kx.1.2.1) hc1 hc2 hc3 ?_
      refine W.eq (g2 := F0 m 17 ls [.ref q9]) rfl ?_
      refine lv_astore (lv' := [(6, .ref q9), (0, .ref xa), (1, .int x1), (2, .int x2), (3, .int x3), (4, .int x4), (5, .ref oA)]) hx hb dL_addHalo_17 hl (by decide) rfl (fun ls hl => ?_)
      refine lv_iconst (v := nI 1) hx hb dL_addHalo_19 (by decide +kernel) ?_
      exact x_iret hQ hx hb hr rfl hlk hS.2.2 dL_addHalo_20 ⟨hS.fr, by rw [hk9], Or.inr ⟨hk, hfr⟩⟩
    · rw [e9] at hc3
      refine vx_catch (E := eIS) (name := eIS) hown [⟨0, 14, 17, 13⟩] ⟨0, 14, 21, 15⟩ [] (hxt.trans rfl) (fun z hz => by have h := List.mem_singleton.mp hz; exact Or.inr ⟨by rw [h]; decide, eIA, by rw [h]; exact k_cl13, hN.2.2⟩) (by decide) (by decide) k_cl15 (va_Nw.use rfl hZ.kx.1.2.2) hc1 hc2 hc3 ?_
      refine W.eq (g2 := F0 m 21 ls [.ref q9]) rfl ?_
      refine lv_astore (lv' := [(6, .ref q9), (0, .ref xa), (1, .int x1), (2, .int x2), (3, .int x3), (4, .int x4), (5, .ref oA)]) hx hb dL_addHalo_21 hl (by decide) rfl (fun ls hl => ?_)
      refine lv_iconst (v := nI 2) hx hb dL_addHalo_23 (by decide +kernel) ?_
      exact x_iret hQ hx hb hr rfl hlk hS.2.2 dL_addHalo_24 ⟨hS.fr, by rw [hk9], Or.inr ⟨hk, hfr⟩⟩
  · refine lv_i2l (v := r.toInt64) hx hb dL_addHalo_12 rfl ?_
    have ho1 := va_at.kept ho (hfr.2 _ (va_at.lt ho) hoA)
    refine x_lastF hx hb hK hS ho1 (Or.inr rfl) dL_addHalo_13 (fun H locs hfo hpo hS => ?_)
    refine lv_goto (tgt := 25) hx hb dL_addHalo_14 (by decide) ?_
    refine lv_iconst (v := nI 0) hx hb dL_addHalo_25 (by decide +kernel) ?_
    exact x_iret hQ hx hb hr rfl hlk hS.2.2 dL_addHalo_26 ⟨hS.fr, by rw [hk], Or.inl ⟨hk, r, H2, hfr, hΦ, hfo, hpo⟩⟩
abbrev rmL_comes : Room := { frames := 7, cells := 1, slots := 6, locals := 112 }
theorem qdL_comes : yL_comes.cls = RL ∧ yL_comes.cls ≠ "java/lang/invoke/MethodHandle" ∧ yL_comes.cls ≠ "java/lang/invoke/VarHandle" ∧ (parseMethodDescriptor yL_comes.desc).map (fun d => d.parameters.length) = some 4 := by decide +kernel
set_option maxHeartbeats 4000000 in
set_option maxRecDepth 100000 in
theorem c_L_comes {l : Launch} {G : gT} {A : Nat → Prop} {H0 : Heap} {zA : Nat × Nat} {xa oA k : Nat} {fx : List Value} {ov : Nat → Int64} {Φ : Int32 → Heap → Prop} {x1 x2 : Int32} (hM : VzI G zA l yX3_comes wsX3_comes rmX3_comes [.ref xa, .int x1, .int x2] H0 A 1 6 [eIX] k Φ) (hxo : pt G xa (.inr (3, fx)) H0) (ho : pt G oA (eL G 1 ov) H0) (hoA : ¬ A oA) : Met l yL_comes wsL_comes rmL_comes (PHw G zA (fun q => A q ∨ q = oA) [.ref xa, .int x1, .int x2, .ref oA] H0) (QH (oI fun r H1 => fr (fun q => A q ∨ q = oA) H0 H1 ∧ wrQ G A oA ov H0 k Φ r H1)) 1 6 (fun q => A q ∨ q = oA) := by
  refine x_headw (bytes := cL_comes) (maxL := 5) (ret := (some .int)) (by decide) rfl (Nat.le_of_ble_eq_true rfl) ?_
  intro p e s m below meth c ls hx hb hml hown hts hr hlk hnm hK hs0 hl Q hQ hZ hN hxt
  have hl : lv_has ls 5 [(0, .ref xa), (1, .int x1), (2, .int x2), (3, .ref oA)] := hl
  have hC : CallFix p m c cL_comes 5 s [.ref xa, .int x1, .int x2, .ref oA].toArray wsL_comes RL := ⟨hx, hb, hml, hown, hts⟩
  have k_cl20 := hts (.classLink RL 20 eIX) (by decide +kernel)
  have hS : va_S (fun q => A q ∨ q = oA) H0 H0 [] := va_S.rf
  refine lv_aload_n hx hb dL_comes_0 rfl (lv_at hl 3 rfl) ?_
  refine lv_iconst (v := nI 0) hx hb dL_comes_1 (by decide +kernel) ?_
  refine lv_aload_n hx hb dL_comes_2 rfl (lv_at hl 0 rfl) ?_
  refine lv_iload_n hx hb dL_comes_3 rfl (lv_at hl 1 rfl) ?_
  refine lv_iload_n hx hb dL_comes_4 rfl (lv_at hl 2 rfl) ?_
  refine x_callx (vx_runV (As := [.int x1, .int x2]) (rest := [.int (nI 0), .ref oA]) hC hM (cwV 2 hts gL_comes_X3_comes rfl rfl rfl qdX3_comes ⟨Nat.le_of_ble_eq_true rfl, Nat.le_of_ble_eq_true rfl⟩) (x_preVz hK (hZ.narrow (fun q h9 => Or.inl h9)) (x_recv hK hxo rfl)) rfl rfl hl.1 rfl (lv_room (Nat.le_of_ble_eq_true rfl)) dL_comes_5 ⟨Nat.le_of_ble_eq_true rfl, Nat.le_of_ble_eq_true rfl⟩) hS (fun _ h => Or.inl h) (fun E ce q9 H locs hk hE hfr hS hc1 hc2 hc3 => ?_) (fun r H2 locs hk hfr hΦ hS => ?_)
  · obtain ⟨e9, hk9⟩ := thr1 hk hE
    rw [e9] at hc3
    refine vx_catch (E := eIX) (name := eIX) hown [] ⟨0, 10, 13, 20⟩ [] (hxt.trans rfl) (fun z hz => nomatch hz) (by decide) (by decide) k_cl20 (va_Nw.use rfl hZ.kx.1.1) hc1 hc2 hc3 ?_
    refine W.eq (g2 := F0 m 13 ls [.ref q9]) rfl ?_
    refine lv_astore (lv' := [(4, .ref q9), (0, .ref xa), (1, .int x1), (2, .int x2), (3, .ref oA)]) hx hb dL_comes_13 hl (by decide) rfl (fun ls hl => ?_)
    refine lv_iconst (v := nI 1) hx hb dL_comes_15 (by decide +kernel) ?_
    exact x_iret hQ hx hb hr rfl hlk hS.2.2 dL_comes_16 ⟨hS.fr, by rw [hk9], Or.inr ⟨hk, hfr⟩⟩
  · refine lv_i2l (v := r.toInt64) hx hb dL_comes_8 rfl ?_
    have ho1 := va_at.kept ho (hfr.2 _ (va_at.lt ho) hoA)
    refine x_lastF hx hb hK hS ho1 (Or.inr rfl) dL_comes_9 (fun H locs hfo hpo hS => ?_)
    refine lv_goto (tgt := 17) hx hb dL_comes_10 (by decide) ?_
    refine lv_iconst (v := nI 0) hx hb dL_comes_17 (by decide +kernel) ?_
    exact x_iret hQ hx hb hr rfl hlk hS.2.2 dL_comes_18 ⟨hS.fr, by rw [hk], Or.inl ⟨hk, r, H2, hfr, hΦ, hfo, hpo⟩⟩
abbrev rmL_reading : Room := { frames := 7, cells := 1, slots := 6, locals := 112 }
theorem qdL_reading : yL_reading.cls = RL ∧ yL_reading.cls ≠ "java/lang/invoke/MethodHandle" ∧ yL_reading.cls ≠ "java/lang/invoke/VarHandle" ∧ (parseMethodDescriptor yL_reading.desc).map (fun d => d.parameters.length) = some 4 := by decide +kernel
set_option maxHeartbeats 4000000 in
set_option maxRecDepth 100000 in
theorem c_L_reading {l : Launch} {G : gT} {A : Nat → Prop} {H0 : Heap} {zA : Nat × Nat} {xa oA k : Nat} {fx : List Value} {ov : Nat → Int64} {Φ : Int32 → Heap → Prop} {x1 x2 : Int32} (hM : VzI G zA l yX3_reading wsX3_reading rmX3_reading [.ref xa, .int x1, .int x2] H0 A 1 6 [eIX] k Φ) (hxo : pt G xa (.inr (3, fx)) H0) (ho : pt G oA (eL G 1 ov) H0) (hoA : ¬ A oA) : Met l yL_reading wsL_reading rmL_reading (PHw G zA (fun q => A q ∨ q = oA) [.ref xa, .int x1, .int x2, .ref oA] H0) (QH (oI fun r H1 => fr (fun q => A q ∨ q = oA) H0 H1 ∧ wrQ G A oA ov H0 k Φ r H1)) 1 6 (fun q => A q ∨ q = oA) := by
  refine x_headw (bytes := cL_reading) (maxL := 5) (ret := (some .int)) (by decide) rfl (Nat.le_of_ble_eq_true rfl) ?_
  intro p e s m below meth c ls hx hb hml hown hts hr hlk hnm hK hs0 hl Q hQ hZ hN hxt
  have hl : lv_has ls 5 [(0, .ref xa), (1, .int x1), (2, .int x2), (3, .ref oA)] := hl
  have hC : CallFix p m c cL_reading 5 s [.ref xa, .int x1, .int x2, .ref oA].toArray wsL_reading RL := ⟨hx, hb, hml, hown, hts⟩
  have k_cl20 := hts (.classLink RL 20 eIX) (by decide +kernel)
  have hS : va_S (fun q => A q ∨ q = oA) H0 H0 [] := va_S.rf
  refine lv_aload_n hx hb dL_reading_0 rfl (lv_at hl 3 rfl) ?_
  refine lv_iconst (v := nI 0) hx hb dL_reading_1 (by decide +kernel) ?_
  refine lv_aload_n hx hb dL_reading_2 rfl (lv_at hl 0 rfl) ?_
  refine lv_iload_n hx hb dL_reading_3 rfl (lv_at hl 1 rfl) ?_
  refine lv_iload_n hx hb dL_reading_4 rfl (lv_at hl 2 rfl) ?_
  refine x_callx (vx_runV (As := [.int x1, .int x2]) (rest := [.int (nI 0), .ref oA]) hC hM (cwV 2 hts gL_reading_X3_reading rfl rfl rfl qdX3_reading ⟨Nat.le_of_ble_eq_true rfl, Nat.le_of_ble_eq_true rfl⟩) (x_preVz hK (hZ.narrow (fun q h9 => Or.inl h9)) (x_recv hK hxo rfl)) rfl rfl hl.1 rfl (lv_room (Nat.le_of_ble_eq_true rfl)) dL_reading_5 ⟨Nat.le_of_ble_eq_true rfl, Nat.le_of_ble_eq_true rfl⟩) hS (fun _ h => Or.inl h) (fun E ce q9 H locs hk hE hfr hS hc1 hc2 hc3 => ?_) (fun r H2 locs hk hfr hΦ hS => ?_)
  · obtain ⟨e9, hk9⟩ := thr1 hk hE
    rw [e9] at hc3
    refine vx_catch (E := eIX) (name := eIX) hown [] ⟨0, 10, 13, 20⟩ [] (hxt.trans rfl) (fun z hz => nomatch hz) (by decide) (by decide) k_cl20 (va_Nw.use rfl hZ.kx.1.1) hc1 hc2 hc3 ?_
    refine W.eq (g2 := F0 m 13 ls [.ref q9]) rfl ?_
    refine lv_astore (lv' := [(4, .ref q9), (0, .ref xa), (1, .int x1), (2, .int x2), (3, .ref oA)]) hx hb dL_reading_13 hl (by decide) rfl (fun ls hl => ?_)
    refine lv_iconst (v := nI 1) hx hb dL_reading_15 (by decide +kernel) ?_
    exact x_iret hQ hx hb hr rfl hlk hS.2.2 dL_reading_16 ⟨hS.fr, by rw [hk9], Or.inr ⟨hk, hfr⟩⟩
  · refine lv_i2l (v := r.toInt64) hx hb dL_reading_8 rfl ?_
    have ho1 := va_at.kept ho (hfr.2 _ (va_at.lt ho) hoA)
    refine x_lastF hx hb hK hS ho1 (Or.inr rfl) dL_reading_9 (fun H locs hfo hpo hS => ?_)
    refine lv_goto (tgt := 17) hx hb dL_reading_10 (by decide) ?_
    refine lv_iconst (v := nI 0) hx hb dL_reading_17 (by decide +kernel) ?_
    exact x_iret hQ hx hb hr rfl hlk hS.2.2 dL_reading_18 ⟨hS.fr, by rw [hk], Or.inl ⟨hk, r, H2, hfr, hΦ, hfo, hpo⟩⟩
abbrev rmL_order : Room := { frames := 7, cells := 1, slots := 6, locals := 112 }
theorem qdL_order : yL_order.cls = RL ∧ yL_order.cls ≠ "java/lang/invoke/MethodHandle" ∧ yL_order.cls ≠ "java/lang/invoke/VarHandle" ∧ (parseMethodDescriptor yL_order.desc).map (fun d => d.parameters.length) = some 4 := by decide +kernel
set_option maxHeartbeats 4000000 in
set_option maxRecDepth 100000 in
theorem c_L_order {l : Launch} {G : gT} {A : Nat → Prop} {H0 : Heap} {zA : Nat × Nat} {xa oA k : Nat} {fx : List Value} {ov : Nat → Int64} {Φ : Int32 → Heap → Prop} {x1 x2 : Int32} (hM : VzI G zA l yX3_order wsX3_order rmX3_order [.ref xa, .int x1, .int x2] H0 A 1 6 [eIX] k Φ) (hxo : pt G xa (.inr (3, fx)) H0) (ho : pt G oA (eL G 1 ov) H0) (hoA : ¬ A oA) : Met l yL_order wsL_order rmL_order (PHw G zA (fun q => A q ∨ q = oA) [.ref xa, .int x1, .int x2, .ref oA] H0) (QH (oI fun r H1 => fr (fun q => A q ∨ q = oA) H0 H1 ∧ wrQ G A oA ov H0 k Φ r H1)) 1 6 (fun q => A q ∨ q = oA) := by
  refine x_headw (bytes := cL_order) (maxL := 5) (ret := (some .int)) (by decide) rfl (Nat.le_of_ble_eq_true rfl) ?_
  intro p e s m below meth c ls hx hb hml hown hts hr hlk hnm hK hs0 hl Q hQ hZ hN hxt
  have hl : lv_has ls 5 [(0, .ref xa), (1, .int x1), (2, .int x2), (3, .ref oA)] := hl
  have hC : CallFix p m c cL_order 5 s [.ref xa, .int x1, .int x2, .ref oA].toArray wsL_order RL := ⟨hx, hb, hml, hown, hts⟩
  have k_cl20 := hts (.classLink RL 20 eIX) (by decide +kernel)
  have hS : va_S (fun q => A q ∨ q = oA) H0 H0 [] := va_S.rf
  refine lv_aload_n hx hb dL_order_0 rfl (lv_at hl 3 rfl) ?_
  refine lv_iconst (v := nI 0) hx hb dL_order_1 (by decide +kernel) ?_
  refine lv_aload_n hx hb dL_order_2 rfl (lv_at hl 0 rfl) ?_
  refine lv_iload_n hx hb dL_order_3 rfl (lv_at hl 1 rfl) ?_
  refine lv_iload_n hx hb dL_order_4 rfl (lv_at hl 2 rfl) ?_
  refine x_callx (vx_runV (As := [.int x1, .int x2]) (rest := [.int (nI 0), .ref oA]) hC hM (cwV 2 hts gL_order_X3_order rfl rfl rfl qdX3_order ⟨Nat.le_of_ble_eq_true rfl, Nat.le_of_ble_eq_true rfl⟩) (x_preVz hK (hZ.narrow (fun q h9 => Or.inl h9)) (x_recv hK hxo rfl)) rfl rfl hl.1 rfl (lv_room (Nat.le_of_ble_eq_true rfl)) dL_order_5 ⟨Nat.le_of_ble_eq_true rfl, Nat.le_of_ble_eq_true rfl⟩) hS (fun _ h => Or.inl h) (fun E ce q9 H locs hk hE hfr hS hc1 hc2 hc3 => ?_) (fun r H2 locs hk hfr hΦ hS => ?_)
  · obtain ⟨e9, hk9⟩ := thr1 hk hE
    rw [e9] at hc3
    refine vx_catch (E := eIX) (name := eIX) hown [] ⟨0, 10, 13, 20⟩ [] (hxt.trans rfl) (fun z hz => nomatch hz) (by decide) (by decide) k_cl20 (va_Nw.use rfl hZ.kx.1.1) hc1 hc2 hc3 ?_
    refine W.eq (g2 := F0 m 13 ls [.ref q9]) rfl ?_
    refine lv_astore (lv' := [(4, .ref q9), (0, .ref xa), (1, .int x1), (2, .int x2), (3, .ref oA)]) hx hb dL_order_13 hl (by decide) rfl (fun ls hl => ?_)
    refine lv_iconst (v := nI 1) hx hb dL_order_15 (by decide +kernel) ?_
    exact x_iret hQ hx hb hr rfl hlk hS.2.2 dL_order_16 ⟨hS.fr, by rw [hk9], Or.inr ⟨hk, hfr⟩⟩
  · refine lv_i2l (v := r.toInt64) hx hb dL_order_8 rfl ?_
    have ho1 := va_at.kept ho (hfr.2 _ (va_at.lt ho) hoA)
    refine x_lastF hx hb hK hS ho1 (Or.inr rfl) dL_order_9 (fun H locs hfo hpo hS => ?_)
    refine lv_goto (tgt := 17) hx hb dL_order_10 (by decide) ?_
    refine lv_iconst (v := nI 0) hx hb dL_order_17 (by decide +kernel) ?_
    exact x_iret hQ hx hb hr rfl hlk hS.2.2 dL_order_18 ⟨hS.fr, by rw [hk], Or.inl ⟨hk, r, H2, hfr, hΦ, hfo, hpo⟩⟩
abbrev rmL_halo : Room := { frames := 7, cells := 1, slots := 6, locals := 133 }
theorem qdL_halo : yL_halo.cls = RL ∧ yL_halo.cls ≠ "java/lang/invoke/MethodHandle" ∧ yL_halo.cls ≠ "java/lang/invoke/VarHandle" ∧ (parseMethodDescriptor yL_halo.desc).map (fun d => d.parameters.length) = some 4 := by decide +kernel
set_option maxHeartbeats 4000000 in
set_option maxRecDepth 100000 in
theorem c_L_halo {l : Launch} {G : gT} {A : Nat → Prop} {H0 : Heap} {zA : Nat × Nat} {xa oA k : Nat} {fx : List Value} {ov : Nat → Int64} {Φ : Int32 → Heap → Prop} {x1 x2 : Int32} (hM : VzI G zA l yX3_halo wsX3_halo rmX3_halo [.ref xa, .int x1, .int x2] H0 A 1 6 [eIX] k Φ) (hxo : pt G xa (.inr (3, fx)) H0) (ho : pt G oA (eL G 1 ov) H0) (hoA : ¬ A oA) : Met l yL_halo wsL_halo rmL_halo (PHw G zA (fun q => A q ∨ q = oA) [.ref xa, .int x1, .int x2, .ref oA] H0) (QH (oI fun r H1 => fr (fun q => A q ∨ q = oA) H0 H1 ∧ wrQ G A oA ov H0 k Φ r H1)) 1 6 (fun q => A q ∨ q = oA) := by
  refine x_headw (bytes := cL_halo) (maxL := 5) (ret := (some .int)) (by decide) rfl (Nat.le_of_ble_eq_true rfl) ?_
  intro p e s m below meth c ls hx hb hml hown hts hr hlk hnm hK hs0 hl Q hQ hZ hN hxt
  have hl : lv_has ls 5 [(0, .ref xa), (1, .int x1), (2, .int x2), (3, .ref oA)] := hl
  have hC : CallFix p m c cL_halo 5 s [.ref xa, .int x1, .int x2, .ref oA].toArray wsL_halo RL := ⟨hx, hb, hml, hown, hts⟩
  have k_cl20 := hts (.classLink RL 20 eIX) (by decide +kernel)
  have hS : va_S (fun q => A q ∨ q = oA) H0 H0 [] := va_S.rf
  refine lv_aload_n hx hb dL_halo_0 rfl (lv_at hl 3 rfl) ?_
  refine lv_iconst (v := nI 0) hx hb dL_halo_1 (by decide +kernel) ?_
  refine lv_aload_n hx hb dL_halo_2 rfl (lv_at hl 0 rfl) ?_
  refine lv_iload_n hx hb dL_halo_3 rfl (lv_at hl 1 rfl) ?_
  refine lv_iload_n hx hb dL_halo_4 rfl (lv_at hl 2 rfl) ?_
  refine x_callx (vx_runV (As := [.int x1, .int x2]) (rest := [.int (nI 0), .ref oA]) hC hM (cwV 2 hts gL_halo_X3_halo rfl rfl rfl qdX3_halo ⟨Nat.le_of_ble_eq_true rfl, Nat.le_of_ble_eq_true rfl⟩) (x_preVz hK (hZ.narrow (fun q h9 => Or.inl h9)) (x_recv hK hxo rfl)) rfl rfl hl.1 rfl (lv_room (Nat.le_of_ble_eq_true rfl)) dL_halo_5 ⟨Nat.le_of_ble_eq_true rfl, Nat.le_of_ble_eq_true rfl⟩) hS (fun _ h => Or.inl h) (fun E ce q9 H locs hk hE hfr hS hc1 hc2 hc3 => ?_) (fun r H2 locs hk hfr hΦ hS => ?_)
  · obtain ⟨e9, hk9⟩ := thr1 hk hE
    rw [e9] at hc3
    refine vx_catch (E := eIX) (name := eIX) hown [] ⟨0, 10, 13, 20⟩ [] (hxt.trans rfl) (fun z hz => nomatch hz) (by decide) (by decide) k_cl20 (va_Nw.use rfl hZ.kx.1.1) hc1 hc2 hc3 ?_
    refine W.eq (g2 := F0 m 13 ls [.ref q9]) rfl ?_
    refine lv_astore (lv' := [(4, .ref q9), (0, .ref xa), (1, .int x1), (2, .int x2), (3, .ref oA)]) hx hb dL_halo_13 hl (by decide) rfl (fun ls hl => ?_)
    refine lv_iconst (v := nI 1) hx hb dL_halo_15 (by decide +kernel) ?_
    exact x_iret hQ hx hb hr rfl hlk hS.2.2 dL_halo_16 ⟨hS.fr, by rw [hk9], Or.inr ⟨hk, hfr⟩⟩
  · refine lv_i2l (v := r.toInt64) hx hb dL_halo_8 rfl ?_
    have ho1 := va_at.kept ho (hfr.2 _ (va_at.lt ho) hoA)
    refine x_lastF hx hb hK hS ho1 (Or.inr rfl) dL_halo_9 (fun H locs hfo hpo hS => ?_)
    refine lv_goto (tgt := 17) hx hb dL_halo_10 (by decide) ?_
    refine lv_iconst (v := nI 0) hx hb dL_halo_17 (by decide +kernel) ?_
    exact x_iret hQ hx hb hr rfl hlk hS.2.2 dL_halo_18 ⟨hS.fr, by rw [hk], Or.inl ⟨hk, r, H2, hfr, hΦ, hfo, hpo⟩⟩
abbrev rmL_guess : Room := { frames := 7, cells := 1, slots := 6, locals := 133 }
theorem qdL_guess : yL_guess.cls = RL ∧ yL_guess.cls ≠ "java/lang/invoke/MethodHandle" ∧ yL_guess.cls ≠ "java/lang/invoke/VarHandle" ∧ (parseMethodDescriptor yL_guess.desc).map (fun d => d.parameters.length) = some 4 := by decide +kernel
set_option maxHeartbeats 4000000 in
set_option maxRecDepth 100000 in
theorem c_L_guess {l : Launch} {G : gT} {A : Nat → Prop} {H0 : Heap} {zA : Nat × Nat} {xa oA k : Nat} {fx : List Value} {ov : Nat → Int64} {Φ : Int32 → Heap → Prop} {x1 x2 : Int32} (hM : VzI G zA l yX3_guess wsX3_guess rmX3_guess [.ref xa, .int x1, .int x2] H0 A 1 6 [eIX] k Φ) (hxo : pt G xa (.inr (3, fx)) H0) (ho : pt G oA (eL G 1 ov) H0) (hoA : ¬ A oA) : Met l yL_guess wsL_guess rmL_guess (PHw G zA (fun q => A q ∨ q = oA) [.ref xa, .int x1, .int x2, .ref oA] H0) (QH (oI fun r H1 => fr (fun q => A q ∨ q = oA) H0 H1 ∧ wrQ G A oA ov H0 k Φ r H1)) 1 6 (fun q => A q ∨ q = oA) := by
  refine x_headw (bytes := cL_guess) (maxL := 5) (ret := (some .int)) (by decide) rfl (Nat.le_of_ble_eq_true rfl) ?_
  intro p e s m below meth c ls hx hb hml hown hts hr hlk hnm hK hs0 hl Q hQ hZ hN hxt
  have hl : lv_has ls 5 [(0, .ref xa), (1, .int x1), (2, .int x2), (3, .ref oA)] := hl
  have hC : CallFix p m c cL_guess 5 s [.ref xa, .int x1, .int x2, .ref oA].toArray wsL_guess RL := ⟨hx, hb, hml, hown, hts⟩
  have k_cl20 := hts (.classLink RL 20 eIX) (by decide +kernel)
  have hS : va_S (fun q => A q ∨ q = oA) H0 H0 [] := va_S.rf
  refine lv_aload_n hx hb dL_guess_0 rfl (lv_at hl 3 rfl) ?_
  refine lv_iconst (v := nI 0) hx hb dL_guess_1 (by decide +kernel) ?_
  refine lv_aload_n hx hb dL_guess_2 rfl (lv_at hl 0 rfl) ?_
  refine lv_iload_n hx hb dL_guess_3 rfl (lv_at hl 1 rfl) ?_
  refine lv_iload_n hx hb dL_guess_4 rfl (lv_at hl 2 rfl) ?_
  refine x_callx (vx_runV (As := [.int x1, .int x2]) (rest := [.int (nI 0), .ref oA]) hC hM (cwV 2 hts gL_guess_X3_guess rfl rfl rfl qdX3_guess ⟨Nat.le_of_ble_eq_true rfl, Nat.le_of_ble_eq_true rfl⟩) (x_preVz hK (hZ.narrow (fun q h9 => Or.inl h9)) (x_recv hK hxo rfl)) rfl rfl hl.1 rfl (lv_room (Nat.le_of_ble_eq_true rfl)) dL_guess_5 ⟨Nat.le_of_ble_eq_true rfl, Nat.le_of_ble_eq_true rfl⟩) hS (fun _ h => Or.inl h) (fun E ce q9 H locs hk hE hfr hS hc1 hc2 hc3 => ?_) (fun r H2 locs hk hfr hΦ hS => ?_)
  · obtain ⟨e9, hk9⟩ := thr1 hk hE
    rw [e9] at hc3
    refine vx_catch (E := eIX) (name := eIX) hown [] ⟨0, 10, 13, 20⟩ [] (hxt.trans rfl) (fun z hz => nomatch hz) (by decide) (by decide) k_cl20 (va_Nw.use rfl hZ.kx.1.1) hc1 hc2 hc3 ?_
    refine W.eq (g2 := F0 m 13 ls [.ref q9]) rfl ?_
    refine lv_astore (lv' := [(4, .ref q9), (0, .ref xa), (1, .int x1), (2, .int x2), (3, .ref oA)]) hx hb dL_guess_13 hl (by decide) rfl (fun ls hl => ?_)
    refine lv_iconst (v := nI 1) hx hb dL_guess_15 (by decide +kernel) ?_
    exact x_iret hQ hx hb hr rfl hlk hS.2.2 dL_guess_16 ⟨hS.fr, by rw [hk9], Or.inr ⟨hk, hfr⟩⟩
  · refine lv_i2l (v := r.toInt64) hx hb dL_guess_8 rfl ?_
    have ho1 := va_at.kept ho (hfr.2 _ (va_at.lt ho) hoA)
    refine x_lastF hx hb hK hS ho1 (Or.inr rfl) dL_guess_9 (fun H locs hfo hpo hS => ?_)
    refine lv_goto (tgt := 17) hx hb dL_guess_10 (by decide) ?_
    refine lv_iconst (v := nI 0) hx hb dL_guess_17 (by decide +kernel) ?_
    exact x_iret hQ hx hb hr rfl hlk hS.2.2 dL_guess_18 ⟨hS.fr, by rw [hk], Or.inl ⟨hk, r, H2, hfr, hΦ, hfo, hpo⟩⟩
abbrev rmL_blame : Room := { frames := 7, cells := 1, slots := 6, locals := 134 }
theorem qdL_blame : yL_blame.cls = RL ∧ yL_blame.cls ≠ "java/lang/invoke/MethodHandle" ∧ yL_blame.cls ≠ "java/lang/invoke/VarHandle" ∧ (parseMethodDescriptor yL_blame.desc).map (fun d => d.parameters.length) = some 3 := by decide +kernel
set_option maxHeartbeats 4000000 in
set_option maxRecDepth 100000 in
theorem c_L_blame {l : Launch} {G : gT} {A : Nat → Prop} {H0 : Heap} {zA : Nat × Nat} {xa oA k : Nat} {fx : List Value} {ov : Nat → Int64} {Φ : Int32 → Heap → Prop} {x1 : Int32} (hM : VzI G zA l yX3_blame wsX3_blame rmX3_blame [.ref xa, .int x1] H0 A 1 6 [eIX] k Φ) (hxo : pt G xa (.inr (3, fx)) H0) (ho : pt G oA (eL G 1 ov) H0) (hoA : ¬ A oA) : Met l yL_blame wsL_blame rmL_blame (PHw G zA (fun q => A q ∨ q = oA) [.ref xa, .int x1, .ref oA] H0) (QH (oI fun r H1 => fr (fun q => A q ∨ q = oA) H0 H1 ∧ wrQ G A oA ov H0 k Φ r H1)) 1 6 (fun q => A q ∨ q = oA) := by
  refine x_headw (bytes := cL_blame) (maxL := 4) (ret := (some .int)) (by decide) rfl (Nat.le_of_ble_eq_true rfl) ?_
  intro p e s m below meth c ls hx hb hml hown hts hr hlk hnm hK hs0 hl Q hQ hZ hN hxt
  have hl : lv_has ls 4 [(0, .ref xa), (1, .int x1), (2, .ref oA)] := hl
  have hC : CallFix p m c cL_blame 4 s [.ref xa, .int x1, .ref oA].toArray wsL_blame RL := ⟨hx, hb, hml, hown, hts⟩
  have k_cl20 := hts (.classLink RL 20 eIX) (by decide +kernel)
  have hS : va_S (fun q => A q ∨ q = oA) H0 H0 [] := va_S.rf
  refine lv_aload_n hx hb dL_blame_0 rfl (lv_at hl 2 rfl) ?_
  refine lv_iconst (v := nI 0) hx hb dL_blame_1 (by decide +kernel) ?_
  refine lv_aload_n hx hb dL_blame_2 rfl (lv_at hl 0 rfl) ?_
  refine lv_iload_n hx hb dL_blame_3 rfl (lv_at hl 1 rfl) ?_
  refine x_callx (vx_runV (As := [.int x1]) (rest := [.int (nI 0), .ref oA]) hC hM (cwV 1 hts gL_blame_X3_blame rfl rfl rfl qdX3_blame ⟨Nat.le_of_ble_eq_true rfl, Nat.le_of_ble_eq_true rfl⟩) (x_preVz hK (hZ.narrow (fun q h9 => Or.inl h9)) (x_recv hK hxo rfl)) rfl rfl hl.1 rfl (lv_room (Nat.le_of_ble_eq_true rfl)) dL_blame_4 ⟨Nat.le_of_ble_eq_true rfl, Nat.le_of_ble_eq_true rfl⟩) hS (fun _ h => Or.inl h) (fun E ce q9 H locs hk hE hfr hS hc1 hc2 hc3 => ?_) (fun r H2 locs hk hfr hΦ hS => ?_)
  · obtain ⟨e9, hk9⟩ := thr1 hk hE
    rw [e9] at hc3
    refine vx_catch (E := eIX) (name := eIX) hown [] ⟨0, 9, 12, 20⟩ [] (hxt.trans rfl) (fun z hz => nomatch hz) (by decide) (by decide) k_cl20 (va_Nw.use rfl hZ.kx.1.1) hc1 hc2 hc3 ?_
    refine W.eq (g2 := F0 m 12 ls [.ref q9]) rfl ?_
    refine lv_astore_n (lv' := [(3, .ref q9), (0, .ref xa), (1, .int x1), (2, .ref oA)]) hx hb dL_blame_12 rfl hl (by decide) rfl (fun ls hl => ?_)
    refine lv_iconst (v := nI 1) hx hb dL_blame_13 (by decide +kernel) ?_
    exact x_iret hQ hx hb hr rfl hlk hS.2.2 dL_blame_14 ⟨hS.fr, by rw [hk9], Or.inr ⟨hk, hfr⟩⟩
  · refine lv_i2l (v := r.toInt64) hx hb dL_blame_7 rfl ?_
    have ho1 := va_at.kept ho (hfr.2 _ (va_at.lt ho) hoA)
    refine x_lastF hx hb hK hS ho1 (Or.inr rfl) dL_blame_8 (fun H locs hfo hpo hS => ?_)
    refine lv_goto (tgt := 15) hx hb dL_blame_9 (by decide) ?_
    refine lv_iconst (v := nI 0) hx hb dL_blame_15 (by decide +kernel) ?_
    exact x_iret hQ hx hb hr rfl hlk hS.2.2 dL_blame_16 ⟨hS.fr, by rw [hk], Or.inl ⟨hk, r, H2, hfr, hΦ, hfo, hpo⟩⟩
abbrev rmL_advise : Room := { frames := 7, cells := 1, slots := 6, locals := 157 }
theorem qdL_advise : yL_advise.cls = RL ∧ yL_advise.cls ≠ "java/lang/invoke/MethodHandle" ∧ yL_advise.cls ≠ "java/lang/invoke/VarHandle" ∧ (parseMethodDescriptor yL_advise.desc).map (fun d => d.parameters.length) = some 3 := by decide +kernel
set_option maxHeartbeats 4000000 in
set_option maxRecDepth 100000 in
theorem c_L_advise {l : Launch} {G : gT} {A : Nat → Prop} {H0 : Heap} {zA : Nat × Nat} {xa oA k : Nat} {fx : List Value} {ov : Nat → Int64} {Φ : Int32 → Heap → Prop} {x1 : Int32} (hM : VzI G zA l yX3_advise wsX3_advise rmX3_advise [.ref xa, .int x1] H0 A 1 6 [eIX] k Φ) (hxo : pt G xa (.inr (3, fx)) H0) (ho : pt G oA (eL G 1 ov) H0) (hoA : ¬ A oA) : Met l yL_advise wsL_advise rmL_advise (PHw G zA (fun q => A q ∨ q = oA) [.ref xa, .int x1, .ref oA] H0) (QH (oI fun r H1 => fr (fun q => A q ∨ q = oA) H0 H1 ∧ wrQ G A oA ov H0 k Φ r H1)) 1 6 (fun q => A q ∨ q = oA) := by
  refine x_headw (bytes := cL_advise) (maxL := 4) (ret := (some .int)) (by decide) rfl (Nat.le_of_ble_eq_true rfl) ?_
  intro p e s m below meth c ls hx hb hml hown hts hr hlk hnm hK hs0 hl Q hQ hZ hN hxt
  have hl : lv_has ls 4 [(0, .ref xa), (1, .int x1), (2, .ref oA)] := hl
  have hC : CallFix p m c cL_advise 4 s [.ref xa, .int x1, .ref oA].toArray wsL_advise RL := ⟨hx, hb, hml, hown, hts⟩
  have k_cl20 := hts (.classLink RL 20 eIX) (by decide +kernel)
  have hS : va_S (fun q => A q ∨ q = oA) H0 H0 [] := va_S.rf
  refine lv_aload_n hx hb dL_advise_0 rfl (lv_at hl 2 rfl) ?_
  refine lv_iconst (v := nI 0) hx hb dL_advise_1 (by decide +kernel) ?_
  refine lv_aload_n hx hb dL_advise_2 rfl (lv_at hl 0 rfl) ?_
  refine lv_iload_n hx hb dL_advise_3 rfl (lv_at hl 1 rfl) ?_
  refine x_callx (vx_runV (As := [.int x1]) (rest := [.int (nI 0), .ref oA]) hC hM (cwV 1 hts gL_advise_X3_advise rfl rfl rfl qdX3_advise ⟨Nat.le_of_ble_eq_true rfl, Nat.le_of_ble_eq_true rfl⟩) (x_preVz hK (hZ.narrow (fun q h9 => Or.inl h9)) (x_recv hK hxo rfl)) rfl rfl hl.1 rfl (lv_room (Nat.le_of_ble_eq_true rfl)) dL_advise_4 ⟨Nat.le_of_ble_eq_true rfl, Nat.le_of_ble_eq_true rfl⟩) hS (fun _ h => Or.inl h) (fun E ce q9 H locs hk hE hfr hS hc1 hc2 hc3 => ?_) (fun r H2 locs hk hfr hΦ hS => ?_)
  · obtain ⟨e9, hk9⟩ := thr1 hk hE
    rw [e9] at hc3
    refine vx_catch (E := eIX) (name := eIX) hown [] ⟨0, 9, 12, 20⟩ [] (hxt.trans rfl) (fun z hz => nomatch hz) (by decide) (by decide) k_cl20 (va_Nw.use rfl hZ.kx.1.1) hc1 hc2 hc3 ?_
    refine W.eq (g2 := F0 m 12 ls [.ref q9]) rfl ?_
    refine lv_astore_n (lv' := [(3, .ref q9), (0, .ref xa), (1, .int x1), (2, .ref oA)]) hx hb dL_advise_12 rfl hl (by decide) rfl (fun ls hl => ?_)
    refine lv_iconst (v := nI 1) hx hb dL_advise_13 (by decide +kernel) ?_
    exact x_iret hQ hx hb hr rfl hlk hS.2.2 dL_advise_14 ⟨hS.fr, by rw [hk9], Or.inr ⟨hk, hfr⟩⟩
  · refine lv_i2l (v := r.toInt64) hx hb dL_advise_7 rfl ?_
    have ho1 := va_at.kept ho (hfr.2 _ (va_at.lt ho) hoA)
    refine x_lastF hx hb hK hS ho1 (Or.inr rfl) dL_advise_8 (fun H locs hfo hpo hS => ?_)
    refine lv_goto (tgt := 15) hx hb dL_advise_9 (by decide) ?_
    refine lv_iconst (v := nI 0) hx hb dL_advise_15 (by decide +kernel) ?_
    exact x_iret hQ hx hb hr rfl hlk hS.2.2 dL_advise_16 ⟨hS.fr, by rw [hk], Or.inl ⟨hk, r, H2, hfr, hΦ, hfo, hpo⟩⟩
abbrev rmL_wire : Room := { frames := 7, cells := 1, slots := 6, locals := 116 }
theorem qdL_wire : yL_wire.cls = RL ∧ yL_wire.cls ≠ "java/lang/invoke/MethodHandle" ∧ yL_wire.cls ≠ "java/lang/invoke/VarHandle" ∧ (parseMethodDescriptor yL_wire.desc).map (fun d => d.parameters.length) = some 5 := by decide +kernel
set_option maxHeartbeats 4000000 in
set_option maxRecDepth 100000 in
theorem c_L_wire {l : Launch} {G : gT} {A : Nat → Prop} {H0 : Heap} {zA : Nat × Nat} {xa oA k : Nat} {fx : List Value} {ov : Nat → Int64} {Φ : Int32 → Heap → Prop} {x1 x2 x3 : Int32} (hM : VzI G zA l yX3_wire wsX3_wire rmX3_wire [.ref xa, .int x1, .int x2, .int x3] H0 A 1 6 [eIX, eIA] k Φ) (hxo : pt G xa (.inr (3, fx)) H0) (ho : pt G oA (eL G 1 ov) H0) (hoA : ¬ A oA) : Met l yL_wire wsL_wire rmL_wire (PHw G zA (fun q => A q ∨ q = oA) [.ref xa, .int x1, .int x2, .int x3, .ref oA] H0) (QH (oI fun r H1 => fr (fun q => A q ∨ q = oA) H0 H1 ∧ wrQ G A oA ov H0 k Φ r H1)) 1 6 (fun q => A q ∨ q = oA) := by
  refine x_headw (bytes := cL_wire) (maxL := 6) (ret := (some .int)) (by decide) rfl (Nat.le_of_ble_eq_true rfl) ?_
  intro p e s m below meth c ls hx hb hml hown hts hr hlk hnm hK hs0 hl Q hQ hZ hN hxt
  have hl : lv_has ls 6 [(0, .ref xa), (1, .int x1), (2, .int x2), (3, .int x3), (4, .ref oA)] := hl
  have hC : CallFix p m c cL_wire 6 s [.ref xa, .int x1, .int x2, .int x3, .ref oA].toArray wsL_wire RL := ⟨hx, hb, hml, hown, hts⟩
  have k_cl20 := hts (.classLink RL 20 eIX) (by decide +kernel)
  have k_cl13 := hts (.classLink RL 13 eIA) (by decide +kernel)
  have hS : va_S (fun q => A q ∨ q = oA) H0 H0 [] := va_S.rf
  refine lv_aload hx hb dL_wire_0 (lv_at hl 4 rfl) ?_
  refine lv_iconst (v := nI 0) hx hb dL_wire_2 (by decide +kernel) ?_
  refine lv_aload_n hx hb dL_wire_3 rfl (lv_at hl 0 rfl) ?_
  refine lv_iload_n hx hb dL_wire_4 rfl (lv_at hl 1 rfl) ?_
  refine lv_iload_n hx hb dL_wire_5 rfl (lv_at hl 2 rfl) ?_
  refine lv_iload_n hx hb dL_wire_6 rfl (lv_at hl 3 rfl) ?_
  refine x_callx (vx_runV (As := [.int x1, .int x2, .int x3]) (rest := [.int (nI 0), .ref oA]) hC hM (cwV 3 hts gL_wire_X3_wire rfl rfl rfl qdX3_wire ⟨Nat.le_of_ble_eq_true rfl, Nat.le_of_ble_eq_true rfl⟩) (x_preVz hK (hZ.narrow (fun q h9 => Or.inl h9)) (x_recv hK hxo rfl)) rfl rfl hl.1 rfl (lv_room (Nat.le_of_ble_eq_true rfl)) dL_wire_7 ⟨Nat.le_of_ble_eq_true rfl, Nat.le_of_ble_eq_true rfl⟩) hS (fun _ h => Or.inl h) (fun E ce q9 H locs hk hE hfr hS hc1 hc2 hc3 => ?_) (fun r H2 locs hk hfr hΦ hS => ?_)
  · rcases thr2 hk hE with ⟨e9, hk9⟩ | ⟨e9, hk9⟩
    · rw [e9] at hc3
      refine vx_catch (E := eIX) (name := eIX) hown [] ⟨0, 12, 15, 20⟩ [⟨0, 12, 19, 13⟩] (hxt.trans rfl) (fun z hz => nomatch hz) (by decide) (by decide) k_cl20 (va_Nw.use rfl hZ.kx.1.1) hc1 hc2 hc3 ?_
      refine W.eq (g2 := F0 m 15 ls [.ref q9]) rfl ?_
      refine lv_astore (lv' := [(5, .ref q9), (0, .ref xa), (1, .int x1), (2, .int x2), (3, .int x3), (4, .ref oA)]) hx hb dL_wire_15 hl (by decide) rfl (fun ls hl => ?_)
      refine lv_iconst (v := nI 1) hx hb dL_wire_17 (by decide +kernel) ?_
      exact x_iret hQ hx hb hr rfl hlk hS.2.2 dL_wire_18 ⟨hS.fr, by rw [hk9], Or.inr ⟨hk, hfr⟩⟩
    · rw [e9] at hc3
      refine vx_catch (E := eIA) (name := eIA) hown [⟨0, 12, 15, 20⟩] ⟨0, 12, 19, 13⟩ [] (hxt.trans rfl) (fun z hz => by have h := List.mem_singleton.mp hz; exact Or.inr ⟨by rw [h]; decide, eIX, by rw [h]; exact k_cl20, hN.1⟩) (by decide) (by decide) k_cl13 (va_Nw.use rfl hZ.kx.1.2.1) hc1 hc2 hc3 ?_
      refine W.eq (g2 := F0 m 19 ls [.ref q9]) rfl ?_
      refine lv_astore (lv' := [(5, .ref q9), (0, .ref xa), (1, .int x1), (2, .int x2), (3, .int x3), (4, .ref oA)]) hx hb dL_wire_19 hl (by decide) rfl (fun ls hl => ?_)
      refine lv_iconst (v := nI 2) hx hb dL_wire_21 (by decide +kernel) ?_
      exact x_iret hQ hx hb hr rfl hlk hS.2.2 dL_wire_22 ⟨hS.fr, by rw [hk9], Or.inr ⟨hk, hfr⟩⟩
  · refine lv_i2l (v := r.toInt64) hx hb dL_wire_10 rfl ?_
    have ho1 := va_at.kept ho (hfr.2 _ (va_at.lt ho) hoA)
    refine x_lastF hx hb hK hS ho1 (Or.inr rfl) dL_wire_11 (fun H locs hfo hpo hS => ?_)
    refine lv_goto (tgt := 23) hx hb dL_wire_12 (by decide) ?_
    refine lv_iconst (v := nI 0) hx hb dL_wire_23 (by decide +kernel) ?_
    exact x_iret hQ hx hb hr rfl hlk hS.2.2 dL_wire_24 ⟨hS.fr, by rw [hk], Or.inl ⟨hk, r, H2, hfr, hΦ, hfo, hpo⟩⟩
abbrev rmL_align : Room := { frames := 7, cells := 1, slots := 6, locals := 115 }
theorem qdL_align : yL_align.cls = RL ∧ yL_align.cls ≠ "java/lang/invoke/MethodHandle" ∧ yL_align.cls ≠ "java/lang/invoke/VarHandle" ∧ (parseMethodDescriptor yL_align.desc).map (fun d => d.parameters.length) = some 4 := by decide +kernel
set_option maxHeartbeats 4000000 in
set_option maxRecDepth 100000 in
theorem c_L_align {l : Launch} {G : gT} {A : Nat → Prop} {H0 : Heap} {zA : Nat × Nat} {xa oA k : Nat} {fx : List Value} {ov : Nat → Int64} {Φ : Int32 → Heap → Prop} {x1 x2 : Int32} (hM : VzI G zA l yX3_align wsX3_align rmX3_align [.ref xa, .int x1, .int x2] H0 A 1 6 [eIX, eIA, eIS] k Φ) (hxo : pt G xa (.inr (3, fx)) H0) (ho : pt G oA (eL G 1 ov) H0) (hoA : ¬ A oA) : Met l yL_align wsL_align rmL_align (PHw G zA (fun q => A q ∨ q = oA) [.ref xa, .int x1, .int x2, .ref oA] H0) (QH (oI fun r H1 => fr (fun q => A q ∨ q = oA) H0 H1 ∧ wrQ G A oA ov H0 k Φ r H1)) 1 6 (fun q => A q ∨ q = oA) := by
  refine x_headw (bytes := cL_align) (maxL := 5) (ret := (some .int)) (by decide) rfl (Nat.le_of_ble_eq_true rfl) ?_
  intro p e s m below meth c ls hx hb hml hown hts hr hlk hnm hK hs0 hl Q hQ hZ hN hxt
  have hl : lv_has ls 5 [(0, .ref xa), (1, .int x1), (2, .int x2), (3, .ref oA)] := hl
  have hC : CallFix p m c cL_align 5 s [.ref xa, .int x1, .int x2, .ref oA].toArray wsL_align RL := ⟨hx, hb, hml, hown, hts⟩
  have k_cl20 := hts (.classLink RL 20 eIX) (by decide +kernel)
  have k_cl13 := hts (.classLink RL 13 eIA) (by decide +kernel)
  have k_cl15 := hts (.classLink RL 15 eIS) (by decide +kernel)
  have hS : va_S (fun q => A q ∨ q = oA) H0 H0 [] := va_S.rf
  refine lv_aload_n hx hb dL_align_0 rfl (lv_at hl 3 rfl) ?_
  refine lv_iconst (v := nI 0) hx hb dL_align_1 (by decide +kernel) ?_
  refine lv_aload_n hx hb dL_align_2 rfl (lv_at hl 0 rfl) ?_
  refine lv_iload_n hx hb dL_align_3 rfl (lv_at hl 1 rfl) ?_
  refine lv_iload_n hx hb dL_align_4 rfl (lv_at hl 2 rfl) ?_
  refine x_callx (vx_runV (As := [.int x1, .int x2]) (rest := [.int (nI 0), .ref oA]) hC hM (cwV 2 hts gL_align_X3_align rfl rfl rfl qdX3_align ⟨Nat.le_of_ble_eq_true rfl, Nat.le_of_ble_eq_true rfl⟩) (x_preVz hK (hZ.narrow (fun q h9 => Or.inl h9)) (x_recv hK hxo rfl)) rfl rfl hl.1 rfl (lv_room (Nat.le_of_ble_eq_true rfl)) dL_align_5 ⟨Nat.le_of_ble_eq_true rfl, Nat.le_of_ble_eq_true rfl⟩) hS (fun _ h => Or.inl h) (fun E ce q9 H locs hk hE hfr hS hc1 hc2 hc3 => ?_) (fun r H2 locs hk hfr hΦ hS => ?_)
  · rcases thr3 hk hE with ⟨e9, hk9⟩ | ⟨e9, hk9⟩ | ⟨e9, hk9⟩
    · rw [e9] at hc3
      refine vx_catch (E := eIX) (name := eIX) hown [] ⟨0, 10, 13, 20⟩ [⟨0, 10, 17, 13⟩, ⟨0, 10, 21, 15⟩] (hxt.trans rfl) (fun z hz => nomatch hz) (by decide) (by decide) k_cl20 (va_Nw.use rfl hZ.kx.1.1) hc1 hc2 hc3 ?_
      refine W.eq (g2 := F0 m 13 ls [.ref q9]) rfl ?_
      refine lv_astore (lv' := [(4, .ref q9), (0, .ref xa), (1, .int x1), (2, .int x2), (3, .ref oA)]) hx hb dL_align_13 hl (by decide) rfl (fun ls hl => ?_)
      refine lv_iconst (v := nI 1) hx hb dL_align_15 (by decide +kernel) ?_
      exact x_iret hQ hx hb hr rfl hlk hS.2.2 dL_align_16 ⟨hS.fr, by rw [hk9], Or.inr ⟨hk, hfr⟩⟩
    · rw [e9] at hc3
      refine vx_catch (E := eIA) (name := eIA) hown [⟨0, 10, 13, 20⟩] ⟨0, 10, 17, 13⟩ [⟨0, 10, 21, 15⟩] (hxt.trans rfl) (fun z hz => by have h := List.mem_singleton.mp hz; exact Or.inr ⟨by rw [h]; decide, eIX, by rw [h]; exact k_cl20, hN.1⟩) (by decide) (by decide) k_cl13 (va_Nw.use rfl hZ.kx.1.2.1) hc1 hc2 hc3 ?_
      refine W.eq (g2 := F0 m 17 ls [.ref q9]) rfl ?_
      refine lv_astore (lv' := [(4, .ref q9), (0, .ref xa), (1, .int x1), (2, .int x2), (3, .ref oA)]) hx hb dL_align_17 hl (by decide) rfl (fun ls hl => ?_)
      refine lv_iconst (v := nI 2) hx hb dL_align_19 (by decide +kernel) ?_
      exact x_iret hQ hx hb hr rfl hlk hS.2.2 dL_align_20 ⟨hS.fr, by rw [hk9], Or.inr ⟨hk, hfr⟩⟩
    · rw [e9] at hc3
      refine vx_catch (E := eIS) (name := eIS) hown [⟨0, 10, 13, 20⟩, ⟨0, 10, 17, 13⟩] ⟨0, 10, 21, 15⟩ [] (hxt.trans rfl) (fun z hz => by rcases List.mem_cons.mp hz with h | h; exact Or.inr ⟨by rw [h]; decide, eIX, by rw [h]; exact k_cl20, hN.2.1⟩; have h := List.mem_singleton.mp h; exact Or.inr ⟨by rw [h]; decide, eIA, by rw [h]; exact k_cl13, hN.2.2⟩) (by decide) (by decide) k_cl15 (va_Nw.use rfl hZ.kx.1.2.2) hc1 hc2 hc3 ?_
      refine W.eq (g2 := F0 m 21 ls [.ref q9]) rfl ?_
      refine lv_astore (lv' := [(4, .ref q9), (0, .ref xa), (1, .int x1), (2, .int x2), (3, .ref oA)]) hx hb dL_align_21 hl (by decide) rfl (fun ls hl => ?_)
      refine lv_iconst (v := nI 3) hx hb dL_align_23 (by decide +kernel) ?_
      exact x_iret hQ hx hb hr rfl hlk hS.2.2 dL_align_24 ⟨hS.fr, by rw [hk9], Or.inr ⟨hk, hfr⟩⟩
  · refine lv_i2l (v := r.toInt64) hx hb dL_align_8 rfl ?_
    have ho1 := va_at.kept ho (hfr.2 _ (va_at.lt ho) hoA)
    refine x_lastF hx hb hK hS ho1 (Or.inr rfl) dL_align_9 (fun H locs hfo hpo hS => ?_)
    refine lv_goto (tgt := 25) hx hb dL_align_10 (by decide) ?_
    refine lv_iconst (v := nI 0) hx hb dL_align_25 (by decide +kernel) ?_
    exact x_iret hQ hx hb hr rfl hlk hS.2.2 dL_align_26 ⟨hS.fr, by rw [hk], Or.inl ⟨hk, r, H2, hfr, hΦ, hfo, hpo⟩⟩
abbrev rmL_spread : Room := { frames := 7, cells := 1, slots := 6, locals := 115 }
theorem qdL_spread : yL_spread.cls = RL ∧ yL_spread.cls ≠ "java/lang/invoke/MethodHandle" ∧ yL_spread.cls ≠ "java/lang/invoke/VarHandle" ∧ (parseMethodDescriptor yL_spread.desc).map (fun d => d.parameters.length) = some 3 := by decide +kernel
set_option maxHeartbeats 4000000 in
set_option maxRecDepth 100000 in
theorem c_L_spread {l : Launch} {G : gT} {A : Nat → Prop} {H0 : Heap} {zA : Nat × Nat} {xa oA k : Nat} {fx : List Value} {ov : Nat → Int64} {Φ : Int32 → Heap → Prop} {x1 : Int32} (hM : VzI G zA l yX3_spread wsX3_spread rmX3_spread [.ref xa, .int x1] H0 A 1 6 [eIA] k Φ) (hxo : pt G xa (.inr (3, fx)) H0) (ho : pt G oA (eL G 1 ov) H0) (hoA : ¬ A oA) : Met l yL_spread wsL_spread rmL_spread (PHw G zA (fun q => A q ∨ q = oA) [.ref xa, .int x1, .ref oA] H0) (QH (oI fun r H1 => fr (fun q => A q ∨ q = oA) H0 H1 ∧ wrQ G A oA ov H0 k Φ r H1)) 1 6 (fun q => A q ∨ q = oA) := by
  refine x_headw (bytes := cL_spread) (maxL := 4) (ret := (some .int)) (by decide) rfl (Nat.le_of_ble_eq_true rfl) ?_
  intro p e s m below meth c ls hx hb hml hown hts hr hlk hnm hK hs0 hl Q hQ hZ hN hxt
  have hl : lv_has ls 4 [(0, .ref xa), (1, .int x1), (2, .ref oA)] := hl
  have hC : CallFix p m c cL_spread 4 s [.ref xa, .int x1, .ref oA].toArray wsL_spread RL := ⟨hx, hb, hml, hown, hts⟩
  have k_cl13 := hts (.classLink RL 13 eIA) (by decide +kernel)
  have hS : va_S (fun q => A q ∨ q = oA) H0 H0 [] := va_S.rf
  refine lv_aload_n hx hb dL_spread_0 rfl (lv_at hl 2 rfl) ?_
  refine lv_iconst (v := nI 0) hx hb dL_spread_1 (by decide +kernel) ?_
  refine lv_aload_n hx hb dL_spread_2 rfl (lv_at hl 0 rfl) ?_
  refine lv_iload_n hx hb dL_spread_3 rfl (lv_at hl 1 rfl) ?_
  refine x_callx (vx_runV (As := [.int x1]) (rest := [.int (nI 0), .ref oA]) hC hM (cwV 1 hts gL_spread_X3_spread rfl rfl rfl qdX3_spread ⟨Nat.le_of_ble_eq_true rfl, Nat.le_of_ble_eq_true rfl⟩) (x_preVz hK (hZ.narrow (fun q h9 => Or.inl h9)) (x_recv hK hxo rfl)) rfl rfl hl.1 rfl (lv_room (Nat.le_of_ble_eq_true rfl)) dL_spread_4 ⟨Nat.le_of_ble_eq_true rfl, Nat.le_of_ble_eq_true rfl⟩) hS (fun _ h => Or.inl h) (fun E ce q9 H locs hk hE hfr hS hc1 hc2 hc3 => ?_) (fun r H2 locs hk hfr hΦ hS => ?_)
  · obtain ⟨e9, hk9⟩ := thr1 hk hE
    rw [e9] at hc3
    refine vx_catch (E := eIA) (name := eIA) hown [] ⟨0, 9, 12, 13⟩ [] (hxt.trans rfl) (fun z hz => nomatch hz) (by decide) (by decide) k_cl13 (va_Nw.use rfl hZ.kx.1.2.1) hc1 hc2 hc3 ?_
    refine W.eq (g2 := F0 m 12 ls [.ref q9]) rfl ?_
    refine lv_astore_n (lv' := [(3, .ref q9), (0, .ref xa), (1, .int x1), (2, .ref oA)]) hx hb dL_spread_12 rfl hl (by decide) rfl (fun ls hl => ?_)
    refine lv_iconst (v := nI 1) hx hb dL_spread_13 (by decide +kernel) ?_
    exact x_iret hQ hx hb hr rfl hlk hS.2.2 dL_spread_14 ⟨hS.fr, by rw [hk9], Or.inr ⟨hk, hfr⟩⟩
  · refine lv_i2l (v := r.toInt64) hx hb dL_spread_7 rfl ?_
    have ho1 := va_at.kept ho (hfr.2 _ (va_at.lt ho) hoA)
    refine x_lastF hx hb hK hS ho1 (Or.inr rfl) dL_spread_8 (fun H locs hfo hpo hS => ?_)
    refine lv_goto (tgt := 15) hx hb dL_spread_9 (by decide) ?_
    refine lv_iconst (v := nI 0) hx hb dL_spread_15 (by decide +kernel) ?_
    exact x_iret hQ hx hb hr rfl hlk hS.2.2 dL_spread_16 ⟨hS.fr, by rw [hk], Or.inl ⟨hk, r, H2, hfr, hΦ, hfo, hpo⟩⟩
abbrev rmL_count : Room := { frames := 7, cells := 1, slots := 6, locals := 151 }
theorem qdL_count : yL_count.cls = RL ∧ yL_count.cls ≠ "java/lang/invoke/MethodHandle" ∧ yL_count.cls ≠ "java/lang/invoke/VarHandle" ∧ (parseMethodDescriptor yL_count.desc).map (fun d => d.parameters.length) = some 3 := by decide +kernel
set_option maxHeartbeats 4000000 in
set_option maxRecDepth 100000 in
theorem c_L_count {l : Launch} {G : gT} {A : Nat → Prop} {H0 : Heap} {zA : Nat × Nat} {xa oA k : Nat} {fx : List Value} {ov : Nat → Int64} {Φ : Int32 → Heap → Prop} {x1 : Int32} (hM : VzI G zA l yX3_count wsX3_count rmX3_count [.ref xa, .int x1] H0 A 1 6 [eIX] k Φ) (hxo : pt G xa (.inr (3, fx)) H0) (ho : pt G oA (eL G 1 ov) H0) (hoA : ¬ A oA) : Met l yL_count wsL_count rmL_count (PHw G zA (fun q => A q ∨ q = oA) [.ref xa, .int x1, .ref oA] H0) (QH (oI fun r H1 => fr (fun q => A q ∨ q = oA) H0 H1 ∧ wrQ G A oA ov H0 k Φ r H1)) 1 6 (fun q => A q ∨ q = oA) := by
  refine x_headw (bytes := cL_count) (maxL := 4) (ret := (some .int)) (by decide) rfl (Nat.le_of_ble_eq_true rfl) ?_
  intro p e s m below meth c ls hx hb hml hown hts hr hlk hnm hK hs0 hl Q hQ hZ hN hxt
  have hl : lv_has ls 4 [(0, .ref xa), (1, .int x1), (2, .ref oA)] := hl
  have hC : CallFix p m c cL_count 4 s [.ref xa, .int x1, .ref oA].toArray wsL_count RL := ⟨hx, hb, hml, hown, hts⟩
  have k_cl20 := hts (.classLink RL 20 eIX) (by decide +kernel)
  have hS : va_S (fun q => A q ∨ q = oA) H0 H0 [] := va_S.rf
  refine lv_aload_n hx hb dL_count_0 rfl (lv_at hl 2 rfl) ?_
  refine lv_iconst (v := nI 0) hx hb dL_count_1 (by decide +kernel) ?_
  refine lv_aload_n hx hb dL_count_2 rfl (lv_at hl 0 rfl) ?_
  refine lv_iload_n hx hb dL_count_3 rfl (lv_at hl 1 rfl) ?_
  refine x_callx (vx_runV (As := [.int x1]) (rest := [.int (nI 0), .ref oA]) hC hM (cwV 1 hts gL_count_X3_count rfl rfl rfl qdX3_count ⟨Nat.le_of_ble_eq_true rfl, Nat.le_of_ble_eq_true rfl⟩) (x_preVz hK (hZ.narrow (fun q h9 => Or.inl h9)) (x_recv hK hxo rfl)) rfl rfl hl.1 rfl (lv_room (Nat.le_of_ble_eq_true rfl)) dL_count_4 ⟨Nat.le_of_ble_eq_true rfl, Nat.le_of_ble_eq_true rfl⟩) hS (fun _ h => Or.inl h) (fun E ce q9 H locs hk hE hfr hS hc1 hc2 hc3 => ?_) (fun r H2 locs hk hfr hΦ hS => ?_)
  · obtain ⟨e9, hk9⟩ := thr1 hk hE
    rw [e9] at hc3
    refine vx_catch (E := eIX) (name := eIX) hown [] ⟨0, 9, 12, 20⟩ [] (hxt.trans rfl) (fun z hz => nomatch hz) (by decide) (by decide) k_cl20 (va_Nw.use rfl hZ.kx.1.1) hc1 hc2 hc3 ?_
    refine W.eq (g2 := F0 m 12 ls [.ref q9]) rfl ?_
    refine lv_astore_n (lv' := [(3, .ref q9), (0, .ref xa), (1, .int x1), (2, .ref oA)]) hx hb dL_count_12 rfl hl (by decide) rfl (fun ls hl => ?_)
    refine lv_iconst (v := nI 1) hx hb dL_count_13 (by decide +kernel) ?_
    exact x_iret hQ hx hb hr rfl hlk hS.2.2 dL_count_14 ⟨hS.fr, by rw [hk9], Or.inr ⟨hk, hfr⟩⟩
  · refine lv_i2l (v := r.toInt64) hx hb dL_count_7 rfl ?_
    have ho1 := va_at.kept ho (hfr.2 _ (va_at.lt ho) hoA)
    refine x_lastF hx hb hK hS ho1 (Or.inr rfl) dL_count_8 (fun H locs hfo hpo hS => ?_)
    refine lv_goto (tgt := 15) hx hb dL_count_9 (by decide) ?_
    refine lv_iconst (v := nI 0) hx hb dL_count_15 (by decide +kernel) ?_
    exact x_iret hQ hx hb hr rfl hlk hS.2.2 dL_count_16 ⟨hS.fr, by rw [hk], Or.inl ⟨hk, r, H2, hfr, hΦ, hfo, hpo⟩⟩
abbrev rmL_error : Room := { frames := 7, cells := 1, slots := 6, locals := 132 }
theorem qdL_error : yL_error.cls = RL ∧ yL_error.cls ≠ "java/lang/invoke/MethodHandle" ∧ yL_error.cls ≠ "java/lang/invoke/VarHandle" ∧ (parseMethodDescriptor yL_error.desc).map (fun d => d.parameters.length) = some 3 := by decide +kernel
set_option maxHeartbeats 4000000 in
set_option maxRecDepth 100000 in
theorem c_L_error {l : Launch} {G : gT} {A : Nat → Prop} {H0 : Heap} {zA : Nat × Nat} {xa oA k : Nat} {fx : List Value} {ov : Nat → UInt64} {Φ : UInt64 → Heap → Prop} {x1 : Int32} (hM : VzD G zA l yX3_error wsX3_error rmX3_error [.ref xa, .int x1] H0 A 1 6 [eIX] k Φ) (hxo : pt G xa (.inr (3, fx)) H0) (ho : pt G oA (eD G 1 ov) H0) (hoA : ¬ A oA) : Met l yL_error wsL_error rmL_error (PHw G zA (fun q => A q ∨ q = oA) [.ref xa, .int x1, .ref oA] H0) (QH (oI fun r H1 => fr (fun q => A q ∨ q = oA) H0 H1 ∧ wrD G A oA ov H0 k Φ r H1)) 1 6 (fun q => A q ∨ q = oA) := by
  refine x_headw (bytes := cL_error) (maxL := 4) (ret := (some .int)) (by decide) rfl (Nat.le_of_ble_eq_true rfl) ?_
  intro p e s m below meth c ls hx hb hml hown hts hr hlk hnm hK hs0 hl Q hQ hZ hN hxt
  have hl : lv_has ls 4 [(0, .ref xa), (1, .int x1), (2, .ref oA)] := hl
  have hC : CallFix p m c cL_error 4 s [.ref xa, .int x1, .ref oA].toArray wsL_error RL := ⟨hx, hb, hml, hown, hts⟩
  have k_cl20 := hts (.classLink RL 20 eIX) (by decide +kernel)
  have hS : va_S (fun q => A q ∨ q = oA) H0 H0 [] := va_S.rf
  refine lv_aload_n hx hb dL_error_0 rfl (lv_at hl 2 rfl) ?_
  refine lv_iconst (v := nI 0) hx hb dL_error_1 (by decide +kernel) ?_
  refine lv_aload_n hx hb dL_error_2 rfl (lv_at hl 0 rfl) ?_
  refine lv_iload_n hx hb dL_error_3 rfl (lv_at hl 1 rfl) ?_
  refine x_calldx (vx_runV (As := [.int x1]) (rest := [.int (nI 0), .ref oA]) hC hM (cwV 1 hts gL_error_X3_error rfl rfl rfl qdX3_error ⟨Nat.le_of_ble_eq_true rfl, Nat.le_of_ble_eq_true rfl⟩) (x_preVz hK (hZ.narrow (fun q h9 => Or.inl h9)) (x_recv hK hxo rfl)) rfl rfl hl.1 rfl (lv_room (Nat.le_of_ble_eq_true rfl)) dL_error_4 ⟨Nat.le_of_ble_eq_true rfl, Nat.le_of_ble_eq_true rfl⟩) hS (fun _ h => Or.inl h) (fun E ce q9 H locs hk hE hfr hS hc1 hc2 hc3 => ?_) (fun r H2 locs hk hfr hΦ hS => ?_)
  · obtain ⟨e9, hk9⟩ := thr1 hk hE
    rw [e9] at hc3
    refine vx_catch (E := eIX) (name := eIX) hown [] ⟨0, 8, 11, 20⟩ [] (hxt.trans rfl) (fun z hz => nomatch hz) (by decide) (by decide) k_cl20 (va_Nw.use rfl hZ.kx.1.1) hc1 hc2 hc3 ?_
    refine W.eq (g2 := F0 m 11 ls [.ref q9]) rfl ?_
    refine lv_astore_n (lv' := [(3, .ref q9), (0, .ref xa), (1, .int x1), (2, .ref oA)]) hx hb dL_error_11 rfl hl (by decide) rfl (fun ls hl => ?_)
    refine lv_iconst (v := nI 1) hx hb dL_error_12 (by decide +kernel) ?_
    exact x_iret hQ hx hb hr rfl hlk hS.2.2 dL_error_13 ⟨hS.fr, by rw [hk9], Or.inr ⟨hk, hfr⟩⟩
  · have ho1 := va_at.kept ho (hfr.2 _ (va_at.lt ho) hoA)
    refine x_dastF hx hb hK hS ho1 (Or.inr rfl) dL_error_7 (fun H locs hfo hpo hS => ?_)
    refine lv_goto (tgt := 14) hx hb dL_error_8 (by decide) ?_
    refine lv_iconst (v := nI 0) hx hb dL_error_14 (by decide +kernel) ?_
    exact x_iret hQ hx hb hr rfl hlk hS.2.2 dL_error_15 ⟨hS.fr, by rw [hk], Or.inl ⟨hk, r, H2, hfr, hΦ, hfo, hpo⟩⟩
