set_option maxHeartbeats 4000000 in
set_option maxRecDepth 100000 in
theorem lc_build {p : Program} {l : Launch} {e : Env} {s : State} {m : MethodId} {below : List Frame} {meth : Method} {c : Code} {Q : State → Prop} {G : gT} {zA : Nat × Nat} {sb Ls : Nat} {xs : Nat → Int32} {xa : Nat} {b : Nat → Nat} {oA oD i ce sl : Nat} {H : Heap} {locs : List Loc} (hF : LFix p l s m c G zA sb Ls xs) (hce : ce + 8 ≤ 601024) (hsl : sl + 100 ≤ 7293034) (hi : i + 5 ≤ Ls) (hI : LI G zA.1 s.heap.size xa b oA oD H) (hS : va_S (aN s) s.heap H locs) (ls : Array Slot) (hl : lv_has ls 9 [(0, .ref sb), (1, .ref xa), (2, .ref (b 0)), (3, .ref oA), (4, .ref oD), (5, .int (nI i))]) (kont : ∀ (H : Heap) (locs : List Loc) (ls : Array Slot), LI G zA.1 s.heap.size xa b oA oD H → va_S (aN s) s.heap H locs → lv_has ls 9 [(0, .ref sb), (1, .ref xa), (2, .ref (b 0)), (3, .ref oA), (4, .ref oD), (5, .int (nI i))] → W p l e rmL_law s m [.ref sb].toArray below meth c H locs (ce + 8) (sl + 100) Q (F0 m 1455 ls [])) : W p l e rmL_law s m [.ref sb].toArray below meth c H locs ce sl Q (F0 m 140 ls []) := by
  obtain ⟨hx, hb, hml, hown, hts, hK, hZ, hN, hX, hsb, hst, hdn, hLs⟩ := hF
  have hC : CallFix p m c cL_law 9 s [.ref sb].toArray wsL_law RL := ⟨hx, hb, hml, hown, hts⟩
  have hbA : ¬ aN s sb := Nat.not_le.mpr hsb
  obtain ⟨tg, n, hn, L, T, o, ov, od, hJ, hg, ho, hz⟩ := hI
  have hn12 := hg.n
  have hh16 := hg.hn
  have hgt : ∀ q, tg q ≠ 0 → q < H.size := fun q h => (hJ.1 q h).2
  obtain ⟨hsA, hsD, hoA, hoD⟩ := hJ.sW
  obtain ⟨fx, hxo⟩ := hJ.2.1.xo
  refine lv_aload_n hx hb dL_law_140 rfl (lv_at hl 1 rfl) ?_
  refine lv_aload_n hx hb dL_law_141 rfl (lv_at hl 0 rfl) ?_
  refine lv_iload hx hb dL_law_142 (lv_at hl 5 rfl) ?_
  refine lv_iconst (v := nI 1) hx hb dL_law_144 (by decide +kernel) ?_
  refine x_iaddN hx hb dL_law_145 ?_
  refine x_sldN hx hb hX hsb hbA hS (by omega) (by omega) dL_law_146 ?_
  refine lv_aload_n hx hb dL_law_147 rfl (lv_at hl 0 rfl) ?_
  refine lv_iload hx hb dL_law_148 (lv_at hl 5 rfl) ?_
  refine lv_iconst (v := nI 2) hx hb dL_law_150 (by decide +kernel) ?_
  refine x_iaddN hx hb dL_law_151 ?_
  refine x_sldN hx hb hX hsb hbA hS (by omega) (by omega) dL_law_152 ?_
  refine lv_aload_n hx hb dL_law_153 rfl (lv_at hl 0 rfl) ?_
  refine lv_iload hx hb dL_law_154 (lv_at hl 5 rfl) ?_
  refine lv_iconst (v := nI 3) hx hb dL_law_156 (by decide +kernel) ?_
  refine x_iaddN hx hb dL_law_157 ?_
  refine x_sldN hx hb hX hsb hbA hS (by omega) (by omega) dL_law_158 ?_
  refine lv_aload_n hx hb dL_law_159 rfl (lv_at hl 3 rfl) ?_
  refine x_runi (vx_runSW (As := [.ref xa, .int ((xs (i + 1))), .int ((xs (i + 2))), .int ((xs (i + 3))), .ref oA]) (rest := []) hC (c_L_build (k_build hJ.2.1 hgt hg ho hst hz) hxo (hJ.2.2.2.1.1) hoA) (vx_cwSW 5 hts gL_law_L_build rfl rfl rfl qdL_build.2 ⟨Nat.le_of_ble_eq_true rfl, Nat.le_of_ble_eq_true rfl⟩) (x_preSw hK ((hZ.at hS).narrow hsA) hN) rfl rfl hl.1 rfl (lv_room (Nat.le_of_ble_eq_true rfl)) dL_law_160 ⟨by show ce + 5 ≤ 601024; omega, by show sl + 60 ≤ 7293034; omega⟩) hS hsA (fun r1 H1 locs hfr1 hq1 hS => ?_)
  obtain ⟨er1, tn, ow, hJ1, hov⟩ := afterW hJ hq1 (fun v H2 h => h) (fun z => ⟨if_neg z, rfl, if_neg z, rfl, if_neg z⟩)
  rw [er1]
  have hK3 : k2 (inR (nI 0) (nI 999) (xs (i + 1)) && inR (-600) (nI 600) (xs (i + 2)) && inR (-99) (nI 99) (xs (i + 3))) (decide (n < 12) && frB L (xs (i + 1)) n) ≤ 3 := qk2_le _ _
  refine lv_istore (lv' := [(6, .int (nI (k2 (inR (nI 0) (nI 999) (xs (i + 1)) && inR (-600) (nI 600) (xs (i + 2)) && inR (-99) (nI 99) (xs (i + 3))) (decide (n < 12) && frB L (xs (i + 1)) n)))), (0, .ref sb), (1, .ref xa), (2, .ref (b 0)), (3, .ref oA), (4, .ref oD), (5, .int (nI i))]) hx hb dL_law_163 hl (by decide) rfl (fun ls hl => ?_)
  refine lv_aload_n hx hb dL_law_165 rfl (lv_at hl 3 rfl) ?_
  refine lv_aload_n hx hb dL_law_166 rfl (lv_at hl 1 rfl) ?_
  refine lv_iload hx hb dL_law_167 (lv_at hl 6 rfl) ?_
  refine lv_iconst (v := nI 1) hx hb dL_law_169 (by decide +kernel) ?_
  refine x_iaddN hx hb dL_law_170 ?_
  refine x_sldN hx hb hX hsb hbA hS (by omega) (by omega) dL_law_171 ?_
  refine lv_aload_n hx hb dL_law_172 rfl (lv_at hl 1 rfl) ?_
  refine lv_iload hx hb dL_law_173 (lv_at hl 6 rfl) ?_
  refine lv_iconst (v := nI 2) hx hb dL_law_175 (by decide +kernel) ?_
  refine x_iaddN hx hb dL_law_176 ?_
  refine x_sldN hx hb hX hsb hbA hS (by omega) (by omega) dL_law_177 ?_
  refine lv_aload_n hx hb dL_law_178 rfl (lv_at hl 1 rfl) ?_
  refine lv_iload hx hb dL_law_179 (lv_at hl 6 rfl) ?_
  refine lv_iconst (v := nI 3) hx hb dL_law_181 (by decide +kernel) ?_
  refine x_iaddN hx hb dL_law_182 ?_
  refine x_sldN hx hb hX hsb hbA hS (by omega) (by omega) dL_law_183 ?_
  obtain ⟨⟨mi, ma, hPm, hm1, hm2, hm3, hm4⟩, ht6⟩ := hJ1.2.2.1
  have hsM : ∀ q, aM tn H1 q → aN s q := sgM hJ1.1 hJ1.2.2.2.2.2
  have hcm := c_X4_build (l := l) (A := aM tn H1) (x1 := (xs (i + 1))) (x2 := (xs (i + 2))) (x3 := (xs (i + 3))) hPm (aM_D ht6) hm1 hm2 (by rw [hm3, hm4]; exact hg)
  rw [hm3, hm4] at hcm
  refine x_runi (va_runV (As := [.int ((xs (i + 1))), .int ((xs (i + 2))), .int ((xs (i + 3)))]) (rest := []) hC hcm (cwV 3 hts gL_law_X4_build rfl rfl rfl qdX4_build ⟨Nat.le_of_ble_eq_true rfl, Nat.le_of_ble_eq_true rfl⟩) (x_preV hK (x_recv hK (hPm 0 _ rfl) rfl)) rfl rfl hl.1 rfl (lv_room (Nat.le_of_ble_eq_true rfl)) dL_law_184 ⟨by show ce + 5 + 0 ≤ 601024; omega, by show sl + 60 + 0 ≤ 7293034; omega⟩) hS hsM (fun r2 H2 locs hfr2 hq2 hS => ?_)
  obtain ⟨hv2, mi2, ma2, hPm2, hmi2, hJ2⟩ := afterM hJ1 hfr2 hq2
  refine lv_istore (lv' := [(7, .int r2), (6, .int (nI (k2 (inR (nI 0) (nI 999) (xs (i + 1)) && inR (-600) (nI 600) (xs (i + 2)) && inR (-99) (nI 99) (xs (i + 3))) (decide (n < 12) && frB L (xs (i + 1)) n)))), (0, .ref sb), (1, .ref xa), (2, .ref (b 0)), (3, .ref oA), (4, .ref oD), (5, .int (nI i))]) hx hb dL_law_187 hl (by decide) rfl (fun ls hl => ?_)
  refine lv_aload_n hx hb dL_law_189 rfl (lv_at hl 4 rfl) ?_
  refine x_rd (va_runV (As := []) (rest := []) hC (c_X4_thrown hPm2) (cwV 0 hts gL_law_X4_thrown rfl rfl rfl qdX4_thrown ⟨Nat.le_of_ble_eq_true rfl, Nat.le_of_ble_eq_true rfl⟩) (x_preV hK (x_recv hK (hPm2 0 _ rfl) rfl)) rfl rfl hl.1 rfl (lv_room (Nat.le_of_ble_eq_true rfl)) dL_law_190 ⟨by show ce + 5 + 0 + 0 ≤ 601024; omega, by show sl + 60 + 0 + 0 ≤ 7293034; omega⟩) ?_
  rw [hmi2]
  refine W.eq (g2 := F0 m 193 ls [.int (nI (k2 (inR (nI 0) (nI 999) (xs (i + 1)) && inR (-600) (nI 600) (xs (i + 2)) && inR (-99) (nI 99) (xs (i + 3))) (decide (n < 12) && frB L (xs (i + 1)) n)))]) rfl ?_
  refine lv_iload hx hb dL_law_193 (lv_at hl 1 rfl) ?_
  refine x_icmp_eq (tgt := 200) hx hb (by omega) (by omega) dL_law_195 (by decide) (fun c_1 => ?_) (fun c_1 => ?_)
  · refine lv_iload hx hb dL_law_200 (lv_at hl 1 rfl) ?_
    refine x_if_neN (tgt := 217) hx hb (by omega) dL_law_202 (by decide) (fun c_2 => ?_) (fun c_2 => ?_)
    · refine lv_goto (tgt := 1455) hx hb dL_law_217 (by decide) ?_
      refine W.widen (k := ce + 8) (n := sl + 100) (by omega) (by omega) ?_
      exact kont _ _ ls ⟨tn, _, _, _, _, _, ow, od, hJ2, v_build ⟨hg, ho, hz⟩⟩ hS (lv_sub hl [2, 3, 4, 5, 6, 7] rfl)
    · have e8 : ow 0 = r2.toInt64 := (hov c_2).trans (congrArg Int32.toInt64 ((rfl).trans (hv2 c_2).symm))
      refine lv_aload_n hx hb dL_law_205 rfl (lv_at hl 5 rfl) ?_
      refine lv_iconst (v := nI 0) hx hb dL_law_206 (by decide +kernel) ?_
      refine x_laldN hx hb hK (hJ2.2.2.2.1.1) dL_law_207 ?_
      rw [e8]
      refine lv_iload hx hb dL_law_208 (lv_at hl 0 rfl) ?_
      refine lv_i2l (v := r2.toInt64) hx hb dL_law_210 rfl ?_
      refine W.lcmp hx hb dL_law_211 ?_
      rw [lg_self]
      refine W.eq (g2 := F0 m 212 ls [.int (nI 0)]) rfl ?_
      refine x_if_eqN (tgt := 217) hx hb (by omega) dL_law_212 (by decide) (fun c_3 => ?_) (fun c_3 => ?_)
      · refine lv_goto (tgt := 1455) hx hb dL_law_217 (by decide) ?_
        refine W.widen (k := ce + 8) (n := sl + 100) (by omega) (by omega) ?_
        exact kont _ _ ls ⟨tn, _, _, _, _, _, ow, od, hJ2, v_build ⟨hg, ho, hz⟩⟩ hS (lv_sub hl [2, 3, 4, 5, 6, 7] rfl)
      · exact absurd c_3 (Nat.lt_irrefl 0)
  · exact absurd rfl c_1
set_option maxHeartbeats 4000000 in
set_option maxRecDepth 100000 in
theorem lc_cloud {p : Program} {l : Launch} {e : Env} {s : State} {m : MethodId} {below : List Frame} {meth : Method} {c : Code} {Q : State → Prop} {G : gT} {zA : Nat × Nat} {sb Ls : Nat} {xs : Nat → Int32} {xa : Nat} {b : Nat → Nat} {oA oD i ce sl : Nat} {H : Heap} {locs : List Loc} (hF : LFix p l s m c G zA sb Ls xs) (hce : ce + 8 ≤ 601024) (hsl : sl + 100 ≤ 7293034) (hi : i + 5 ≤ Ls) (hI : LI G zA.1 s.heap.size xa b oA oD H) (hS : va_S (aN s) s.heap H locs) (ls : Array Slot) (hl : lv_has ls 9 [(0, .ref sb), (1, .ref xa), (2, .ref (b 0)), (3, .ref oA), (4, .ref oD), (5, .int (nI i))]) (kont : ∀ (H : Heap) (locs : List Loc) (ls : Array Slot), LI G zA.1 s.heap.size xa b oA oD H → va_S (aN s) s.heap H locs → lv_has ls 9 [(0, .ref sb), (1, .ref xa), (2, .ref (b 0)), (3, .ref oA), (4, .ref oD), (5, .int (nI i))] → W p l e rmL_law s m [.ref sb].toArray below meth c H locs (ce + 8) (sl + 100) Q (F0 m 1455 ls [])) : W p l e rmL_law s m [.ref sb].toArray below meth c H locs ce sl Q (F0 m 220 ls []) := by
  obtain ⟨hx, hb, hml, hown, hts, hK, hZ, hN, hX, hsb, hst, hdn, hLs⟩ := hF
  have hC : CallFix p m c cL_law 9 s [.ref sb].toArray wsL_law RL := ⟨hx, hb, hml, hown, hts⟩
  have hbA : ¬ aN s sb := Nat.not_le.mpr hsb
  obtain ⟨tg, n, hn, L, T, o, ov, od, hJ, hg, ho, hz⟩ := hI
  have hn12 := hg.n
  have hh16 := hg.hn
  have hgt : ∀ q, tg q ≠ 0 → q < H.size := fun q h => (hJ.1 q h).2
  obtain ⟨hsA, hsD, hoA, hoD⟩ := hJ.sW
  obtain ⟨fx, hxo⟩ := hJ.2.1.xo
  refine lv_aload_n hx hb dL_law_220 rfl (lv_at hl 1 rfl) ?_
  refine lv_aload_n hx hb dL_law_221 rfl (lv_at hl 0 rfl) ?_
  refine lv_iload hx hb dL_law_222 (lv_at hl 5 rfl) ?_
  refine lv_iconst (v := nI 1) hx hb dL_law_224 (by decide +kernel) ?_
  refine x_iaddN hx hb dL_law_225 ?_
  refine x_sldN hx hb hX hsb hbA hS (by omega) (by omega) dL_law_226 ?_
  refine lv_aload_n hx hb dL_law_227 rfl (lv_at hl 0 rfl) ?_
  refine lv_iload hx hb dL_law_228 (lv_at hl 5 rfl) ?_
  refine lv_iconst (v := nI 2) hx hb dL_law_230 (by decide +kernel) ?_
  refine x_iaddN hx hb dL_law_231 ?_
  refine x_sldN hx hb hX hsb hbA hS (by omega) (by omega) dL_law_232 ?_
  refine lv_aload_n hx hb dL_law_233 rfl (lv_at hl 0 rfl) ?_
  refine lv_iload hx hb dL_law_234 (lv_at hl 5 rfl) ?_
  refine lv_iconst (v := nI 3) hx hb dL_law_236 (by decide +kernel) ?_
  refine x_iaddN hx hb dL_law_237 ?_
  refine x_sldN hx hb hX hsb hbA hS (by omega) (by omega) dL_law_238 ?_
  refine lv_aload_n hx hb dL_law_239 rfl (lv_at hl 3 rfl) ?_
  refine x_runi (vx_runSW (As := [.ref xa, .int ((xs (i + 1))), .int ((xs (i + 2))), .int ((xs (i + 3))), .ref oA]) (rest := []) hC (c_L_cloud (k_cloud hJ.2.1 hgt hg ho hst) hxo (hJ.2.2.2.1.1) hoA) (vx_cwSW 5 hts gL_law_L_cloud rfl rfl rfl qdL_cloud.2 ⟨Nat.le_of_ble_eq_true rfl, Nat.le_of_ble_eq_true rfl⟩) (x_preSw hK ((hZ.at hS).narrow hsA) hN) rfl rfl hl.1 rfl (lv_room (Nat.le_of_ble_eq_true rfl)) dL_law_240 ⟨by show ce + 1 ≤ 601024; omega, by show sl + 6 ≤ 7293034; omega⟩) hS hsA (fun r1 H1 locs hfr1 hq1 hS => ?_)
  obtain ⟨er1, tn, ow, hJ1, hov⟩ := afterW hJ hq1 (fun v H2 h => h) (fun z => ⟨rfl, rfl, if_neg z, rfl, rfl⟩)
  rw [er1]
  have hK3 : k3 (vS n (xs (i + 1))) (cB (xs (i + 2)) (xs (i + 3))) (decide (¬ nc L (xs (i + 1)).toNatClampNeg = 4)) ≤ 3 := qk3_le _ _ _
  refine lv_istore (lv' := [(6, .int (nI (k3 (vS n (xs (i + 1))) (cB (xs (i + 2)) (xs (i + 3))) (decide (¬ nc L (xs (i + 1)).toNatClampNeg = 4))))), (0, .ref sb), (1, .ref xa), (2, .ref (b 0)), (3, .ref oA), (4, .ref oD), (5, .int (nI i))]) hx hb dL_law_243 hl (by decide) rfl (fun ls hl => ?_)
  refine lv_aload_n hx hb dL_law_245 rfl (lv_at hl 3 rfl) ?_
  refine lv_aload_n hx hb dL_law_246 rfl (lv_at hl 1 rfl) ?_
  refine lv_iload hx hb dL_law_247 (lv_at hl 6 rfl) ?_
  refine lv_iconst (v := nI 1) hx hb dL_law_249 (by decide +kernel) ?_
  refine x_iaddN hx hb dL_law_250 ?_
  refine x_sldN hx hb hX hsb hbA hS (by omega) (by omega) dL_law_251 ?_
  refine lv_aload_n hx hb dL_law_252 rfl (lv_at hl 1 rfl) ?_
  refine lv_iload hx hb dL_law_253 (lv_at hl 6 rfl) ?_
  refine lv_iconst (v := nI 2) hx hb dL_law_255 (by decide +kernel) ?_
  refine x_iaddN hx hb dL_law_256 ?_
  refine x_sldN hx hb hX hsb hbA hS (by omega) (by omega) dL_law_257 ?_
  refine lv_aload_n hx hb dL_law_258 rfl (lv_at hl 1 rfl) ?_
  refine lv_iload hx hb dL_law_259 (lv_at hl 6 rfl) ?_
  refine lv_iconst (v := nI 3) hx hb dL_law_261 (by decide +kernel) ?_
  refine x_iaddN hx hb dL_law_262 ?_
  refine x_sldN hx hb hX hsb hbA hS (by omega) (by omega) dL_law_263 ?_
  obtain ⟨⟨mi, ma, hPm, hm1, hm2, hm3, hm4⟩, ht6⟩ := hJ1.2.2.1
  have hsM : ∀ q, aM tn H1 q → aN s q := sgM hJ1.1 hJ1.2.2.2.2.2
  have hcm := c_X4_cloud (l := l) (A := aM tn H1) (x1 := (xs (i + 1))) (x2 := (xs (i + 2))) (x3 := (xs (i + 3))) hPm (aM_D ht6) hm1 hm2 (by rw [hm3, hm4]; exact hg)
  rw [hm3, hm4] at hcm
  refine x_runi (va_runV (As := [.int ((xs (i + 1))), .int ((xs (i + 2))), .int ((xs (i + 3)))]) (rest := []) hC hcm (cwV 3 hts gL_law_X4_cloud rfl rfl rfl qdX4_cloud ⟨Nat.le_of_ble_eq_true rfl, Nat.le_of_ble_eq_true rfl⟩) (x_preV hK (x_recv hK (hPm 0 _ rfl) rfl)) rfl rfl hl.1 rfl (lv_room (Nat.le_of_ble_eq_true rfl)) dL_law_264 ⟨by show ce + 1 + 0 ≤ 601024; omega, by show sl + 6 + 0 ≤ 7293034; omega⟩) hS hsM (fun r2 H2 locs hfr2 hq2 hS => ?_)
  obtain ⟨hv2, mi2, ma2, hPm2, hmi2, hJ2⟩ := afterM hJ1 hfr2 hq2
  refine lv_istore (lv' := [(7, .int r2), (6, .int (nI (k3 (vS n (xs (i + 1))) (cB (xs (i + 2)) (xs (i + 3))) (decide (¬ nc L (xs (i + 1)).toNatClampNeg = 4))))), (0, .ref sb), (1, .ref xa), (2, .ref (b 0)), (3, .ref oA), (4, .ref oD), (5, .int (nI i))]) hx hb dL_law_267 hl (by decide) rfl (fun ls hl => ?_)
  refine lv_aload_n hx hb dL_law_269 rfl (lv_at hl 4 rfl) ?_
  refine x_rd (va_runV (As := []) (rest := []) hC (c_X4_thrown hPm2) (cwV 0 hts gL_law_X4_thrown rfl rfl rfl qdX4_thrown ⟨Nat.le_of_ble_eq_true rfl, Nat.le_of_ble_eq_true rfl⟩) (x_preV hK (x_recv hK (hPm2 0 _ rfl) rfl)) rfl rfl hl.1 rfl (lv_room (Nat.le_of_ble_eq_true rfl)) dL_law_270 ⟨by show ce + 1 + 0 + 0 ≤ 601024; omega, by show sl + 6 + 0 + 0 ≤ 7293034; omega⟩) ?_
  rw [hmi2]
  refine W.eq (g2 := F0 m 273 ls [.int (nI (k3 (vS n (xs (i + 1))) (cB (xs (i + 2)) (xs (i + 3))) (decide (¬ nc L (xs (i + 1)).toNatClampNeg = 4))))]) rfl ?_
  refine lv_iload hx hb dL_law_273 (lv_at hl 1 rfl) ?_
  refine x_icmp_eq (tgt := 280) hx hb (by omega) (by omega) dL_law_275 (by decide) (fun c_1 => ?_) (fun c_1 => ?_)
  · refine lv_iload hx hb dL_law_280 (lv_at hl 1 rfl) ?_
    refine x_if_neN (tgt := 297) hx hb (by omega) dL_law_282 (by decide) (fun c_2 => ?_) (fun c_2 => ?_)
    · refine lv_goto (tgt := 1455) hx hb dL_law_297 (by decide) ?_
      refine W.widen (k := ce + 8) (n := sl + 100) (by omega) (by omega) ?_
      exact kont _ _ ls ⟨tn, _, _, _, _, _, ow, od, hJ2, v_cloud ⟨hg, ho, hz⟩⟩ hS (lv_sub hl [2, 3, 4, 5, 6, 7] rfl)
    · have e8 : ow 0 = r2.toInt64 := (hov c_2).trans (congrArg Int32.toInt64 ((rfl).trans (hv2 c_2).symm))
      refine lv_aload_n hx hb dL_law_285 rfl (lv_at hl 5 rfl) ?_
      refine lv_iconst (v := nI 0) hx hb dL_law_286 (by decide +kernel) ?_
      refine x_laldN hx hb hK (hJ2.2.2.2.1.1) dL_law_287 ?_
      rw [e8]
      refine lv_iload hx hb dL_law_288 (lv_at hl 0 rfl) ?_
      refine lv_i2l (v := r2.toInt64) hx hb dL_law_290 rfl ?_
      refine W.lcmp hx hb dL_law_291 ?_
      rw [lg_self]
      refine W.eq (g2 := F0 m 292 ls [.int (nI 0)]) rfl ?_
      refine x_if_eqN (tgt := 297) hx hb (by omega) dL_law_292 (by decide) (fun c_3 => ?_) (fun c_3 => ?_)
      · refine lv_goto (tgt := 1455) hx hb dL_law_297 (by decide) ?_
        refine W.widen (k := ce + 8) (n := sl + 100) (by omega) (by omega) ?_
        exact kont _ _ ls ⟨tn, _, _, _, _, _, ow, od, hJ2, v_cloud ⟨hg, ho, hz⟩⟩ hS (lv_sub hl [2, 3, 4, 5, 6, 7] rfl)
      · exact absurd c_3 (Nat.lt_irrefl 0)
  · exact absurd rfl c_1
set_option maxHeartbeats 4000000 in
set_option maxRecDepth 100000 in
theorem lc_clear {p : Program} {l : Launch} {e : Env} {s : State} {m : MethodId} {below : List Frame} {meth : Method} {c : Code} {Q : State → Prop} {G : gT} {zA : Nat × Nat} {sb Ls : Nat} {xs : Nat → Int32} {xa : Nat} {b : Nat → Nat} {oA oD i ce sl : Nat} {H : Heap} {locs : List Loc} (hF : LFix p l s m c G zA sb Ls xs) (hce : ce + 8 ≤ 601024) (hsl : sl + 100 ≤ 7293034) (hi : i + 5 ≤ Ls) (hI : LI G zA.1 s.heap.size xa b oA oD H) (hS : va_S (aN s) s.heap H locs) (ls : Array Slot) (hl : lv_has ls 9 [(0, .ref sb), (1, .ref xa), (2, .ref (b 0)), (3, .ref oA), (4, .ref oD), (5, .int (nI i))]) (kont : ∀ (H : Heap) (locs : List Loc) (ls : Array Slot), LI G zA.1 s.heap.size xa b oA oD H → va_S (aN s) s.heap H locs → lv_has ls 9 [(0, .ref sb), (1, .ref xa), (2, .ref (b 0)), (3, .ref oA), (4, .ref oD), (5, .int (nI i))] → W p l e rmL_law s m [.ref sb].toArray below meth c H locs (ce + 8) (sl + 100) Q (F0 m 1455 ls [])) : W p l e rmL_law s m [.ref sb].toArray below meth c H locs ce sl Q (F0 m 300 ls []) := by
  obtain ⟨hx, hb, hml, hown, hts, hK, hZ, hN, hX, hsb, hst, hdn, hLs⟩ := hF
  have hC : CallFix p m c cL_law 9 s [.ref sb].toArray wsL_law RL := ⟨hx, hb, hml, hown, hts⟩
  have hbA : ¬ aN s sb := Nat.not_le.mpr hsb
  obtain ⟨tg, n, hn, L, T, o, ov, od, hJ, hg, ho, hz⟩ := hI
  have hn12 := hg.n
  have hh16 := hg.hn
  have hgt : ∀ q, tg q ≠ 0 → q < H.size := fun q h => (hJ.1 q h).2
  obtain ⟨hsA, hsD, hoA, hoD⟩ := hJ.sW
  obtain ⟨fx, hxo⟩ := hJ.2.1.xo
  refine lv_aload_n hx hb dL_law_300 rfl (lv_at hl 1 rfl) ?_
  refine lv_aload_n hx hb dL_law_301 rfl (lv_at hl 0 rfl) ?_
  refine lv_iload hx hb dL_law_302 (lv_at hl 5 rfl) ?_
  refine lv_iconst (v := nI 1) hx hb dL_law_304 (by decide +kernel) ?_
  refine x_iaddN hx hb dL_law_305 ?_
  refine x_sldN hx hb hX hsb hbA hS (by omega) (by omega) dL_law_306 ?_
  refine lv_aload_n hx hb dL_law_307 rfl (lv_at hl 3 rfl) ?_
  refine x_runi (vx_runSW (As := [.ref xa, .int ((xs (i + 1))), .ref oA]) (rest := []) hC (c_L_clear (k_clear hJ.2.1 hgt hg ho hst) hxo (hJ.2.2.2.1.1) hoA) (vx_cwSW 3 hts gL_law_L_clear rfl rfl rfl qdL_clear.2 ⟨Nat.le_of_ble_eq_true rfl, Nat.le_of_ble_eq_true rfl⟩) (x_preSw hK ((hZ.at hS).narrow hsA) hN) rfl rfl hl.1 rfl (lv_room (Nat.le_of_ble_eq_true rfl)) dL_law_308 ⟨by show ce + 1 ≤ 601024; omega, by show sl + 6 ≤ 7293034; omega⟩) hS hsA (fun r1 H1 locs hfr1 hq1 hS => ?_)
  obtain ⟨er1, tn, ow, hJ1, hov⟩ := afterW hJ hq1 (fun v H2 h => h) (fun z => ⟨rfl, rfl, if_neg z, rfl, rfl⟩)
  rw [er1]
  have hK3 : k1 (vS n (xs (i + 1))) ≤ 3 := qk1_le _
  refine lv_istore (lv' := [(6, .int (nI (k1 (vS n (xs (i + 1)))))), (0, .ref sb), (1, .ref xa), (2, .ref (b 0)), (3, .ref oA), (4, .ref oD), (5, .int (nI i))]) hx hb dL_law_311 hl (by decide) rfl (fun ls hl => ?_)
  refine lv_aload_n hx hb dL_law_313 rfl (lv_at hl 3 rfl) ?_
  refine lv_aload_n hx hb dL_law_314 rfl (lv_at hl 1 rfl) ?_
  refine lv_iload hx hb dL_law_315 (lv_at hl 6 rfl) ?_
  refine lv_iconst (v := nI 1) hx hb dL_law_317 (by decide +kernel) ?_
  refine x_iaddN hx hb dL_law_318 ?_
  refine x_sldN hx hb hX hsb hbA hS (by omega) (by omega) dL_law_319 ?_
  obtain ⟨⟨mi, ma, hPm, hm1, hm2, hm3, hm4⟩, ht6⟩ := hJ1.2.2.1
  have hsM : ∀ q, aM tn H1 q → aN s q := sgM hJ1.1 hJ1.2.2.2.2.2
  have hcm := c_X4_clear (l := l) (A := aM tn H1) (x1 := (xs (i + 1))) hPm (aM_D ht6) hm1 hm2 (by rw [hm3, hm4]; exact hg)
  rw [hm3, hm4] at hcm
  refine x_runi (va_runV (As := [.int ((xs (i + 1)))]) (rest := []) hC hcm (cwV 1 hts gL_law_X4_clear rfl rfl rfl qdX4_clear ⟨Nat.le_of_ble_eq_true rfl, Nat.le_of_ble_eq_true rfl⟩) (x_preV hK (x_recv hK (hPm 0 _ rfl) rfl)) rfl rfl hl.1 rfl (lv_room (Nat.le_of_ble_eq_true rfl)) dL_law_320 ⟨by show ce + 1 + 0 ≤ 601024; omega, by show sl + 6 + 0 ≤ 7293034; omega⟩) hS hsM (fun r2 H2 locs hfr2 hq2 hS => ?_)
  obtain ⟨hv2, mi2, ma2, hPm2, hmi2, hJ2⟩ := afterM hJ1 hfr2 hq2
  refine lv_istore (lv' := [(7, .int r2), (6, .int (nI (k1 (vS n (xs (i + 1)))))), (0, .ref sb), (1, .ref xa), (2, .ref (b 0)), (3, .ref oA), (4, .ref oD), (5, .int (nI i))]) hx hb dL_law_323 hl (by decide) rfl (fun ls hl => ?_)
  refine lv_aload_n hx hb dL_law_325 rfl (lv_at hl 4 rfl) ?_
  refine x_rd (va_runV (As := []) (rest := []) hC (c_X4_thrown hPm2) (cwV 0 hts gL_law_X4_thrown rfl rfl rfl qdX4_thrown ⟨Nat.le_of_ble_eq_true rfl, Nat.le_of_ble_eq_true rfl⟩) (x_preV hK (x_recv hK (hPm2 0 _ rfl) rfl)) rfl rfl hl.1 rfl (lv_room (Nat.le_of_ble_eq_true rfl)) dL_law_326 ⟨by show ce + 1 + 0 + 0 ≤ 601024; omega, by show sl + 6 + 0 + 0 ≤ 7293034; omega⟩) ?_
  rw [hmi2]
  refine W.eq (g2 := F0 m 329 ls [.int (nI (k1 (vS n (xs (i + 1)))))]) rfl ?_
  refine lv_iload hx hb dL_law_329 (lv_at hl 1 rfl) ?_
  refine x_icmp_eq (tgt := 336) hx hb (by omega) (by omega) dL_law_331 (by decide) (fun c_1 => ?_) (fun c_1 => ?_)
  · refine lv_iload hx hb dL_law_336 (lv_at hl 1 rfl) ?_
    refine x_if_neN (tgt := 353) hx hb (by omega) dL_law_338 (by decide) (fun c_2 => ?_) (fun c_2 => ?_)
    · refine lv_goto (tgt := 1455) hx hb dL_law_353 (by decide) ?_
      refine W.widen (k := ce + 8) (n := sl + 100) (by omega) (by omega) ?_
      exact kont _ _ ls ⟨tn, _, _, _, _, _, ow, od, hJ2, v_clear ⟨hg, ho, hz⟩⟩ hS (lv_sub hl [2, 3, 4, 5, 6, 7] rfl)
    · have e8 : ow 0 = r2.toInt64 := (hov c_2).trans (congrArg Int32.toInt64 ((rfl).trans (hv2 c_2).symm))
      refine lv_aload_n hx hb dL_law_341 rfl (lv_at hl 5 rfl) ?_
      refine lv_iconst (v := nI 0) hx hb dL_law_342 (by decide +kernel) ?_
      refine x_laldN hx hb hK (hJ2.2.2.2.1.1) dL_law_343 ?_
      rw [e8]
      refine lv_iload hx hb dL_law_344 (lv_at hl 0 rfl) ?_
      refine lv_i2l (v := r2.toInt64) hx hb dL_law_346 rfl ?_
      refine W.lcmp hx hb dL_law_347 ?_
      rw [lg_self]
      refine W.eq (g2 := F0 m 348 ls [.int (nI 0)]) rfl ?_
      refine x_if_eqN (tgt := 353) hx hb (by omega) dL_law_348 (by decide) (fun c_3 => ?_) (fun c_3 => ?_)
      · refine lv_goto (tgt := 1455) hx hb dL_law_353 (by decide) ?_
        refine W.widen (k := ce + 8) (n := sl + 100) (by omega) (by omega) ?_
        exact kont _ _ ls ⟨tn, _, _, _, _, _, ow, od, hJ2, v_clear ⟨hg, ho, hz⟩⟩ hS (lv_sub hl [2, 3, 4, 5, 6, 7] rfl)
      · exact absurd c_3 (Nat.lt_irrefl 0)
  · exact absurd rfl c_1
set_option maxHeartbeats 4000000 in
set_option maxRecDepth 100000 in
theorem lc_correct {p : Program} {l : Launch} {e : Env} {s : State} {m : MethodId} {below : List Frame} {meth : Method} {c : Code} {Q : State → Prop} {G : gT} {zA : Nat × Nat} {sb Ls : Nat} {xs : Nat → Int32} {xa : Nat} {b : Nat → Nat} {oA oD i ce sl : Nat} {H : Heap} {locs : List Loc} (hF : LFix p l s m c G zA sb Ls xs) (hce : ce + 8 ≤ 601024) (hsl : sl + 100 ≤ 7293034) (hi : i + 5 ≤ Ls) (hI : LI G zA.1 s.heap.size xa b oA oD H) (hS : va_S (aN s) s.heap H locs) (ls : Array Slot) (hl : lv_has ls 9 [(0, .ref sb), (1, .ref xa), (2, .ref (b 0)), (3, .ref oA), (4, .ref oD), (5, .int (nI i))]) (kont : ∀ (H : Heap) (locs : List Loc) (ls : Array Slot), LI G zA.1 s.heap.size xa b oA oD H → va_S (aN s) s.heap H locs → lv_has ls 9 [(0, .ref sb), (1, .ref xa), (2, .ref (b 0)), (3, .ref oA), (4, .ref oD), (5, .int (nI i))] → W p l e rmL_law s m [.ref sb].toArray below meth c H locs (ce + 8) (sl + 100) Q (F0 m 1455 ls [])) : W p l e rmL_law s m [.ref sb].toArray below meth c H locs ce sl Q (F0 m 356 ls []) := by
  obtain ⟨hx, hb, hml, hown, hts, hK, hZ, hN, hX, hsb, hst, hdn, hLs⟩ := hF
  have hC : CallFix p m c cL_law 9 s [.ref sb].toArray wsL_law RL := ⟨hx, hb, hml, hown, hts⟩
  have hbA : ¬ aN s sb := Nat.not_le.mpr hsb
  obtain ⟨tg, n, hn, L, T, o, ov, od, hJ, hg, ho, hz⟩ := hI
  have hn12 := hg.n
  have hh16 := hg.hn
  have hgt : ∀ q, tg q ≠ 0 → q < H.size := fun q h => (hJ.1 q h).2
  obtain ⟨hsA, hsD, hoA, hoD⟩ := hJ.sW
  obtain ⟨fx, hxo⟩ := hJ.2.1.xo
  refine lv_aload_n hx hb dL_law_356 rfl (lv_at hl 1 rfl) ?_
  refine lv_aload_n hx hb dL_law_357 rfl (lv_at hl 0 rfl) ?_
  refine lv_iload hx hb dL_law_358 (lv_at hl 5 rfl) ?_
  refine lv_iconst (v := nI 1) hx hb dL_law_360 (by decide +kernel) ?_
  refine x_iaddN hx hb dL_law_361 ?_
  refine x_sldN hx hb hX hsb hbA hS (by omega) (by omega) dL_law_362 ?_
  refine lv_aload_n hx hb dL_law_363 rfl (lv_at hl 0 rfl) ?_
  refine lv_iload hx hb dL_law_364 (lv_at hl 5 rfl) ?_
  refine lv_iconst (v := nI 2) hx hb dL_law_366 (by decide +kernel) ?_
  refine x_iaddN hx hb dL_law_367 ?_
  refine x_sldN hx hb hX hsb hbA hS (by omega) (by omega) dL_law_368 ?_
  refine lv_aload_n hx hb dL_law_369 rfl (lv_at hl 3 rfl) ?_
  refine x_runi (vx_runSW (As := [.ref xa, .int ((xs (i + 1))), .int ((xs (i + 2))), .ref oA]) (rest := []) hC (c_L_correct (k_correct hJ.2.1 hgt hg ho hst) hxo (hJ.2.2.2.1.1) hoA) (vx_cwSW 4 hts gL_law_L_correct rfl rfl rfl qdL_correct.2 ⟨Nat.le_of_ble_eq_true rfl, Nat.le_of_ble_eq_true rfl⟩) (x_preSw hK ((hZ.at hS).narrow hsA) hN) rfl rfl hl.1 rfl (lv_room (Nat.le_of_ble_eq_true rfl)) dL_law_370 ⟨by show ce + 1 ≤ 601024; omega, by show sl + 6 ≤ 7293034; omega⟩) hS hsA (fun r1 H1 locs hfr1 hq1 hS => ?_)
  obtain ⟨er1, tn, ow, hJ1, hov⟩ := afterW hJ hq1 (fun v H2 h => h) (fun z => ⟨rfl, rfl, if_neg z, rfl, rfl⟩)
  rw [er1]
  have hK3 : k2 (vS n (xs (i + 1))) (inR (-100000) (nI 100000) (xs (i + 2))) ≤ 3 := qk2_le _ _
  refine lv_istore (lv' := [(6, .int (nI (k2 (vS n (xs (i + 1))) (inR (-100000) (nI 100000) (xs (i + 2)))))), (0, .ref sb), (1, .ref xa), (2, .ref (b 0)), (3, .ref oA), (4, .ref oD), (5, .int (nI i))]) hx hb dL_law_373 hl (by decide) rfl (fun ls hl => ?_)
  refine lv_aload_n hx hb dL_law_375 rfl (lv_at hl 3 rfl) ?_
  refine lv_aload_n hx hb dL_law_376 rfl (lv_at hl 1 rfl) ?_
  refine lv_iload hx hb dL_law_377 (lv_at hl 6 rfl) ?_
  refine lv_iconst (v := nI 1) hx hb dL_law_379 (by decide +kernel) ?_
  refine x_iaddN hx hb dL_law_380 ?_
  refine x_sldN hx hb hX hsb hbA hS (by omega) (by omega) dL_law_381 ?_
  refine lv_aload_n hx hb dL_law_382 rfl (lv_at hl 1 rfl) ?_
  refine lv_iload hx hb dL_law_383 (lv_at hl 6 rfl) ?_
  refine lv_iconst (v := nI 2) hx hb dL_law_385 (by decide +kernel) ?_
  refine x_iaddN hx hb dL_law_386 ?_
  refine x_sldN hx hb hX hsb hbA hS (by omega) (by omega) dL_law_387 ?_
  obtain ⟨⟨mi, ma, hPm, hm1, hm2, hm3, hm4⟩, ht6⟩ := hJ1.2.2.1
  have hsM : ∀ q, aM tn H1 q → aN s q := sgM hJ1.1 hJ1.2.2.2.2.2
  have hcm := c_X4_correct (l := l) (A := aM tn H1) (x1 := (xs (i + 1))) (x2 := (xs (i + 2))) hPm (aM_D ht6) hm1 hm2 (by rw [hm3, hm4]; exact hg)
  rw [hm3, hm4] at hcm
  refine x_runi (va_runV (As := [.int ((xs (i + 1))), .int ((xs (i + 2)))]) (rest := []) hC hcm (cwV 2 hts gL_law_X4_correct rfl rfl rfl qdX4_correct ⟨Nat.le_of_ble_eq_true rfl, Nat.le_of_ble_eq_true rfl⟩) (x_preV hK (x_recv hK (hPm 0 _ rfl) rfl)) rfl rfl hl.1 rfl (lv_room (Nat.le_of_ble_eq_true rfl)) dL_law_388 ⟨by show ce + 1 + 0 ≤ 601024; omega, by show sl + 6 + 0 ≤ 7293034; omega⟩) hS hsM (fun r2 H2 locs hfr2 hq2 hS => ?_)
  obtain ⟨hv2, mi2, ma2, hPm2, hmi2, hJ2⟩ := afterM hJ1 hfr2 hq2
  refine lv_istore (lv' := [(7, .int r2), (6, .int (nI (k2 (vS n (xs (i + 1))) (inR (-100000) (nI 100000) (xs (i + 2)))))), (0, .ref sb), (1, .ref xa), (2, .ref (b 0)), (3, .ref oA), (4, .ref oD), (5, .int (nI i))]) hx hb dL_law_391 hl (by decide) rfl (fun ls hl => ?_)
  refine lv_aload_n hx hb dL_law_393 rfl (lv_at hl 4 rfl) ?_
  refine x_rd (va_runV (As := []) (rest := []) hC (c_X4_thrown hPm2) (cwV 0 hts gL_law_X4_thrown rfl rfl rfl qdX4_thrown ⟨Nat.le_of_ble_eq_true rfl, Nat.le_of_ble_eq_true rfl⟩) (x_preV hK (x_recv hK (hPm2 0 _ rfl) rfl)) rfl rfl hl.1 rfl (lv_room (Nat.le_of_ble_eq_true rfl)) dL_law_394 ⟨by show ce + 1 + 0 + 0 ≤ 601024; omega, by show sl + 6 + 0 + 0 ≤ 7293034; omega⟩) ?_
  rw [hmi2]
  refine W.eq (g2 := F0 m 397 ls [.int (nI (k2 (vS n (xs (i + 1))) (inR (-100000) (nI 100000) (xs (i + 2)))))]) rfl ?_
  refine lv_iload hx hb dL_law_397 (lv_at hl 1 rfl) ?_
  refine x_icmp_eq (tgt := 404) hx hb (by omega) (by omega) dL_law_399 (by decide) (fun c_1 => ?_) (fun c_1 => ?_)
  · refine lv_iload hx hb dL_law_404 (lv_at hl 1 rfl) ?_
    refine x_if_neN (tgt := 421) hx hb (by omega) dL_law_406 (by decide) (fun c_2 => ?_) (fun c_2 => ?_)
    · refine lv_goto (tgt := 1455) hx hb dL_law_421 (by decide) ?_
      refine W.widen (k := ce + 8) (n := sl + 100) (by omega) (by omega) ?_
      exact kont _ _ ls ⟨tn, _, _, _, _, _, ow, od, hJ2, v_correct ⟨hg, ho, hz⟩⟩ hS (lv_sub hl [2, 3, 4, 5, 6, 7] rfl)
    · have e8 : ow 0 = r2.toInt64 := (hov c_2).trans (congrArg Int32.toInt64 ((rfl).trans (hv2 c_2).symm))
      refine lv_aload_n hx hb dL_law_409 rfl (lv_at hl 5 rfl) ?_
      refine lv_iconst (v := nI 0) hx hb dL_law_410 (by decide +kernel) ?_
      refine x_laldN hx hb hK (hJ2.2.2.2.1.1) dL_law_411 ?_
      rw [e8]
      refine lv_iload hx hb dL_law_412 (lv_at hl 0 rfl) ?_
      refine lv_i2l (v := r2.toInt64) hx hb dL_law_414 rfl ?_
      refine W.lcmp hx hb dL_law_415 ?_
      rw [lg_self]
      refine W.eq (g2 := F0 m 416 ls [.int (nI 0)]) rfl ?_
      refine x_if_eqN (tgt := 421) hx hb (by omega) dL_law_416 (by decide) (fun c_3 => ?_) (fun c_3 => ?_)
      · refine lv_goto (tgt := 1455) hx hb dL_law_421 (by decide) ?_
        refine W.widen (k := ce + 8) (n := sl + 100) (by omega) (by omega) ?_
        exact kont _ _ ls ⟨tn, _, _, _, _, _, ow, od, hJ2, v_correct ⟨hg, ho, hz⟩⟩ hS (lv_sub hl [2, 3, 4, 5, 6, 7] rfl)
      · exact absurd c_3 (Nat.lt_irrefl 0)
  · exact absurd rfl c_1
set_option maxHeartbeats 4000000 in
set_option maxRecDepth 100000 in
theorem lc_station {p : Program} {l : Launch} {e : Env} {s : State} {m : MethodId} {below : List Frame} {meth : Method} {c : Code} {Q : State → Prop} {G : gT} {zA : Nat × Nat} {sb Ls : Nat} {xs : Nat → Int32} {xa : Nat} {b : Nat → Nat} {oA oD i ce sl : Nat} {H : Heap} {locs : List Loc} (hF : LFix p l s m c G zA sb Ls xs) (hce : ce + 8 ≤ 601024) (hsl : sl + 100 ≤ 7293034) (hi : i + 5 ≤ Ls) (hI : LI G zA.1 s.heap.size xa b oA oD H) (hS : va_S (aN s) s.heap H locs) (ls : Array Slot) (hl : lv_has ls 9 [(0, .ref sb), (1, .ref xa), (2, .ref (b 0)), (3, .ref oA), (4, .ref oD), (5, .int (nI i))]) (kont : ∀ (H : Heap) (locs : List Loc) (ls : Array Slot), LI G zA.1 s.heap.size xa b oA oD H → va_S (aN s) s.heap H locs → lv_has ls 9 [(0, .ref sb), (1, .ref xa), (2, .ref (b 0)), (3, .ref oA), (4, .ref oD), (5, .int (nI i))] → W p l e rmL_law s m [.ref sb].toArray below meth c H locs (ce + 8) (sl + 100) Q (F0 m 1455 ls [])) : W p l e rmL_law s m [.ref sb].toArray below meth c H locs ce sl Q (F0 m 424 ls []) := by
  obtain ⟨hx, hb, hml, hown, hts, hK, hZ, hN, hX, hsb, hst, hdn, hLs⟩ := hF
  have hC : CallFix p m c cL_law 9 s [.ref sb].toArray wsL_law RL := ⟨hx, hb, hml, hown, hts⟩
  have hbA : ¬ aN s sb := Nat.not_le.mpr hsb
  obtain ⟨tg, n, hn, L, T, o, ov, od, hJ, hg, ho, hz⟩ := hI
  have hn12 := hg.n
  have hh16 := hg.hn
  have hgt : ∀ q, tg q ≠ 0 → q < H.size := fun q h => (hJ.1 q h).2
  obtain ⟨hsA, hsD, hoA, hoD⟩ := hJ.sW
  obtain ⟨fx, hxo⟩ := hJ.2.1.xo
  refine lv_aload_n hx hb dL_law_424 rfl (lv_at hl 1 rfl) ?_
  refine lv_aload_n hx hb dL_law_425 rfl (lv_at hl 0 rfl) ?_
  refine lv_iload hx hb dL_law_426 (lv_at hl 5 rfl) ?_
  refine lv_iconst (v := nI 1) hx hb dL_law_428 (by decide +kernel) ?_
  refine x_iaddN hx hb dL_law_429 ?_
  refine x_sldN hx hb hX hsb hbA hS (by omega) (by omega) dL_law_430 ?_
  refine lv_aload_n hx hb dL_law_431 rfl (lv_at hl 0 rfl) ?_
  refine lv_iload hx hb dL_law_432 (lv_at hl 5 rfl) ?_
  refine lv_iconst (v := nI 2) hx hb dL_law_434 (by decide +kernel) ?_
  refine x_iaddN hx hb dL_law_435 ?_
  refine x_sldN hx hb hX hsb hbA hS (by omega) (by omega) dL_law_436 ?_
  refine lv_aload_n hx hb dL_law_437 rfl (lv_at hl 3 rfl) ?_
  refine x_runi (vx_runSW (As := [.ref xa, .int ((xs (i + 1))), .int ((xs (i + 2))), .ref oA]) (rest := []) hC (c_L_station (k_station hJ.2.1 hgt hg ho hst) hxo (hJ.2.2.2.1.1) hoA) (vx_cwSW 4 hts gL_law_L_station rfl rfl rfl qdL_station.2 ⟨Nat.le_of_ble_eq_true rfl, Nat.le_of_ble_eq_true rfl⟩) (x_preSw hK ((hZ.at hS).narrow hsA) hN) rfl rfl hl.1 rfl (lv_room (Nat.le_of_ble_eq_true rfl)) dL_law_438 ⟨by show ce + 1 ≤ 601024; omega, by show sl + 6 ≤ 7293034; omega⟩) hS hsA (fun r1 H1 locs hfr1 hq1 hS => ?_)
  obtain ⟨er1, tn, ow, hJ1, hov⟩ := afterW hJ hq1 (fun v H2 h => h) (fun _ => ⟨rfl, rfl, rfl, rfl, rfl⟩)
  rw [er1]
  have hK3 : k1 (vS n (xs (i + 1)) && inR (nI 0) (nI 5) (xs (i + 2))) ≤ 3 := qk1_le _
  refine lv_istore (lv' := [(6, .int (nI (k1 (vS n (xs (i + 1)) && inR (nI 0) (nI 5) (xs (i + 2)))))), (0, .ref sb), (1, .ref xa), (2, .ref (b 0)), (3, .ref oA), (4, .ref oD), (5, .int (nI i))]) hx hb dL_law_441 hl (by decide) rfl (fun ls hl => ?_)
  refine lv_aload_n hx hb dL_law_443 rfl (lv_at hl 3 rfl) ?_
  refine lv_aload_n hx hb dL_law_444 rfl (lv_at hl 1 rfl) ?_
  refine lv_iload hx hb dL_law_445 (lv_at hl 6 rfl) ?_
  refine lv_iconst (v := nI 1) hx hb dL_law_447 (by decide +kernel) ?_
  refine x_iaddN hx hb dL_law_448 ?_
  refine x_sldN hx hb hX hsb hbA hS (by omega) (by omega) dL_law_449 ?_
  refine lv_aload_n hx hb dL_law_450 rfl (lv_at hl 1 rfl) ?_
  refine lv_iload hx hb dL_law_451 (lv_at hl 6 rfl) ?_
  refine lv_iconst (v := nI 2) hx hb dL_law_453 (by decide +kernel) ?_
  refine x_iaddN hx hb dL_law_454 ?_
  refine x_sldN hx hb hX hsb hbA hS (by omega) (by omega) dL_law_455 ?_
  obtain ⟨⟨mi, ma, hPm, hm1, hm2, hm3, hm4⟩, ht6⟩ := hJ1.2.2.1
  have hsM : ∀ q, aM tn H1 q → aN s q := sgM hJ1.1 hJ1.2.2.2.2.2
  have hcm := c_X4_station (l := l) (A := aM tn H1) (x1 := (xs (i + 1))) (x2 := (xs (i + 2))) hPm (aM_D ht6) hm1 hm2 (by rw [hm3, hm4]; exact hg)
  rw [hm3, hm4] at hcm
  refine x_runi (va_runV (As := [.int ((xs (i + 1))), .int ((xs (i + 2)))]) (rest := []) hC hcm (cwV 2 hts gL_law_X4_station rfl rfl rfl qdX4_station ⟨Nat.le_of_ble_eq_true rfl, Nat.le_of_ble_eq_true rfl⟩) (x_preV hK (x_recv hK (hPm 0 _ rfl) rfl)) rfl rfl hl.1 rfl (lv_room (Nat.le_of_ble_eq_true rfl)) dL_law_456 ⟨by show ce + 1 + 0 ≤ 601024; omega, by show sl + 6 + 0 ≤ 7293034; omega⟩) hS hsM (fun r2 H2 locs hfr2 hq2 hS => ?_)
  obtain ⟨hv2, mi2, ma2, hPm2, hmi2, hJ2⟩ := afterM hJ1 hfr2 hq2
  refine lv_istore (lv' := [(7, .int r2), (6, .int (nI (k1 (vS n (xs (i + 1)) && inR (nI 0) (nI 5) (xs (i + 2)))))), (0, .ref sb), (1, .ref xa), (2, .ref (b 0)), (3, .ref oA), (4, .ref oD), (5, .int (nI i))]) hx hb dL_law_459 hl (by decide) rfl (fun ls hl => ?_)
  refine lv_aload_n hx hb dL_law_461 rfl (lv_at hl 4 rfl) ?_
  refine x_rd (va_runV (As := []) (rest := []) hC (c_X4_thrown hPm2) (cwV 0 hts gL_law_X4_thrown rfl rfl rfl qdX4_thrown ⟨Nat.le_of_ble_eq_true rfl, Nat.le_of_ble_eq_true rfl⟩) (x_preV hK (x_recv hK (hPm2 0 _ rfl) rfl)) rfl rfl hl.1 rfl (lv_room (Nat.le_of_ble_eq_true rfl)) dL_law_462 ⟨by show ce + 1 + 0 + 0 ≤ 601024; omega, by show sl + 6 + 0 + 0 ≤ 7293034; omega⟩) ?_
  rw [hmi2]
  refine W.eq (g2 := F0 m 465 ls [.int (nI (k1 (vS n (xs (i + 1)) && inR (nI 0) (nI 5) (xs (i + 2)))))]) rfl ?_
  refine lv_iload hx hb dL_law_465 (lv_at hl 1 rfl) ?_
  refine x_icmp_eq (tgt := 472) hx hb (by omega) (by omega) dL_law_467 (by decide) (fun c_1 => ?_) (fun c_1 => ?_)
  · refine lv_iload hx hb dL_law_472 (lv_at hl 1 rfl) ?_
    refine x_if_neN (tgt := 489) hx hb (by omega) dL_law_474 (by decide) (fun c_2 => ?_) (fun c_2 => ?_)
    · refine lv_goto (tgt := 1455) hx hb dL_law_489 (by decide) ?_
      refine W.widen (k := ce + 8) (n := sl + 100) (by omega) (by omega) ?_
      exact kont _ _ ls ⟨tn, _, _, _, _, _, ow, od, hJ2, ⟨hg, ho, hz⟩⟩ hS (lv_sub hl [2, 3, 4, 5, 6, 7] rfl)
    · have e8 : ow 0 = r2.toInt64 := (hov c_2).trans (congrArg Int32.toInt64 ((rfl).trans (hv2 c_2).symm))
      refine lv_aload_n hx hb dL_law_477 rfl (lv_at hl 5 rfl) ?_
      refine lv_iconst (v := nI 0) hx hb dL_law_478 (by decide +kernel) ?_
      refine x_laldN hx hb hK (hJ2.2.2.2.1.1) dL_law_479 ?_
      rw [e8]
      refine lv_iload hx hb dL_law_480 (lv_at hl 0 rfl) ?_
      refine lv_i2l (v := r2.toInt64) hx hb dL_law_482 rfl ?_
      refine W.lcmp hx hb dL_law_483 ?_
      rw [lg_self]
      refine W.eq (g2 := F0 m 484 ls [.int (nI 0)]) rfl ?_
      refine x_if_eqN (tgt := 489) hx hb (by omega) dL_law_484 (by decide) (fun c_3 => ?_) (fun c_3 => ?_)
      · refine lv_goto (tgt := 1455) hx hb dL_law_489 (by decide) ?_
        refine W.widen (k := ce + 8) (n := sl + 100) (by omega) (by omega) ?_
        exact kont _ _ ls ⟨tn, _, _, _, _, _, ow, od, hJ2, ⟨hg, ho, hz⟩⟩ hS (lv_sub hl [2, 3, 4, 5, 6, 7] rfl)
      · exact absurd c_3 (Nat.lt_irrefl 0)
  · exact absurd rfl c_1
set_option maxHeartbeats 4000000 in
set_option maxRecDepth 100000 in
theorem lc_clock {p : Program} {l : Launch} {e : Env} {s : State} {m : MethodId} {below : List Frame} {meth : Method} {c : Code} {Q : State → Prop} {G : gT} {zA : Nat × Nat} {sb Ls : Nat} {xs : Nat → Int32} {xa : Nat} {b : Nat → Nat} {oA oD i ce sl : Nat} {H : Heap} {locs : List Loc} (hF : LFix p l s m c G zA sb Ls xs) (hce : ce + 8 ≤ 601024) (hsl : sl + 100 ≤ 7293034) (hi : i + 5 ≤ Ls) (hI : LI G zA.1 s.heap.size xa b oA oD H) (hS : va_S (aN s) s.heap H locs) (ls : Array Slot) (hl : lv_has ls 9 [(0, .ref sb), (1, .ref xa), (2, .ref (b 0)), (3, .ref oA), (4, .ref oD), (5, .int (nI i))]) (kont : ∀ (H : Heap) (locs : List Loc) (ls : Array Slot), LI G zA.1 s.heap.size xa b oA oD H → va_S (aN s) s.heap H locs → lv_has ls 9 [(0, .ref sb), (1, .ref xa), (2, .ref (b 0)), (3, .ref oA), (4, .ref oD), (5, .int (nI i))] → W p l e rmL_law s m [.ref sb].toArray below meth c H locs (ce + 8) (sl + 100) Q (F0 m 1455 ls [])) : W p l e rmL_law s m [.ref sb].toArray below meth c H locs ce sl Q (F0 m 492 ls []) := by
  obtain ⟨hx, hb, hml, hown, hts, hK, hZ, hN, hX, hsb, hst, hdn, hLs⟩ := hF
  have hC : CallFix p m c cL_law 9 s [.ref sb].toArray wsL_law RL := ⟨hx, hb, hml, hown, hts⟩
  have hbA : ¬ aN s sb := Nat.not_le.mpr hsb
  obtain ⟨tg, n, hn, L, T, o, ov, od, hJ, hg, ho, hz⟩ := hI
  have hn12 := hg.n
  have hh16 := hg.hn
  have hgt : ∀ q, tg q ≠ 0 → q < H.size := fun q h => (hJ.1 q h).2
  obtain ⟨hsA, hsD, hoA, hoD⟩ := hJ.sW
  obtain ⟨fx, hxo⟩ := hJ.2.1.xo
  refine lv_aload_n hx hb dL_law_492 rfl (lv_at hl 1 rfl) ?_
  refine lv_aload_n hx hb dL_law_493 rfl (lv_at hl 0 rfl) ?_
  refine lv_iload hx hb dL_law_494 (lv_at hl 5 rfl) ?_
  refine lv_iconst (v := nI 1) hx hb dL_law_496 (by decide +kernel) ?_
  refine x_iaddN hx hb dL_law_497 ?_
  refine x_sldN hx hb hX hsb hbA hS (by omega) (by omega) dL_law_498 ?_
  refine lv_aload_n hx hb dL_law_499 rfl (lv_at hl 0 rfl) ?_
  refine lv_iload hx hb dL_law_500 (lv_at hl 5 rfl) ?_
  refine lv_iconst (v := nI 2) hx hb dL_law_502 (by decide +kernel) ?_
  refine x_iaddN hx hb dL_law_503 ?_
  refine x_sldN hx hb hX hsb hbA hS (by omega) (by omega) dL_law_504 ?_
  refine lv_aload_n hx hb dL_law_505 rfl (lv_at hl 3 rfl) ?_
  refine x_runi (vx_runSW (As := [.ref xa, .int ((xs (i + 1))), .int ((xs (i + 2))), .ref oA]) (rest := []) hC (c_L_clock (k_clock hJ.2.1 hgt hg ho hst) hxo (hJ.2.2.2.1.1) hoA) (vx_cwSW 4 hts gL_law_L_clock rfl rfl rfl qdL_clock.2 ⟨Nat.le_of_ble_eq_true rfl, Nat.le_of_ble_eq_true rfl⟩) (x_preSw hK ((hZ.at hS).narrow hsA) hN) rfl rfl hl.1 rfl (lv_room (Nat.le_of_ble_eq_true rfl)) dL_law_506 ⟨by show ce + 1 ≤ 601024; omega, by show sl + 6 ≤ 7293034; omega⟩) hS hsA (fun r1 H1 locs hfr1 hq1 hS => ?_)
  obtain ⟨er1, tn, ow, hJ1, hov⟩ := afterW hJ hq1 (fun v H2 h => h) (fun _ => ⟨rfl, rfl, rfl, rfl, rfl⟩)
  rw [er1]
  have hK3 : k2 (vS n (xs (i + 1))) (inR (nI 0) (nI 1000000) (xs (i + 2))) ≤ 3 := qk2_le _ _
  refine lv_istore (lv' := [(6, .int (nI (k2 (vS n (xs (i + 1))) (inR (nI 0) (nI 1000000) (xs (i + 2)))))), (0, .ref sb), (1, .ref xa), (2, .ref (b 0)), (3, .ref oA), (4, .ref oD), (5, .int (nI i))]) hx hb dL_law_509 hl (by decide) rfl (fun ls hl => ?_)
  refine lv_aload_n hx hb dL_law_511 rfl (lv_at hl 3 rfl) ?_
  refine lv_aload_n hx hb dL_law_512 rfl (lv_at hl 1 rfl) ?_
  refine lv_iload hx hb dL_law_513 (lv_at hl 6 rfl) ?_
  refine lv_iconst (v := nI 1) hx hb dL_law_515 (by decide +kernel) ?_
  refine x_iaddN hx hb dL_law_516 ?_
  refine x_sldN hx hb hX hsb hbA hS (by omega) (by omega) dL_law_517 ?_
  refine lv_aload_n hx hb dL_law_518 rfl (lv_at hl 1 rfl) ?_
  refine lv_iload hx hb dL_law_519 (lv_at hl 6 rfl) ?_
  refine lv_iconst (v := nI 2) hx hb dL_law_521 (by decide +kernel) ?_
  refine x_iaddN hx hb dL_law_522 ?_
  refine x_sldN hx hb hX hsb hbA hS (by omega) (by omega) dL_law_523 ?_
  obtain ⟨⟨mi, ma, hPm, hm1, hm2, hm3, hm4⟩, ht6⟩ := hJ1.2.2.1
  have hsM : ∀ q, aM tn H1 q → aN s q := sgM hJ1.1 hJ1.2.2.2.2.2
  have hcm := c_X4_clock (l := l) (A := aM tn H1) (x1 := (xs (i + 1))) (x2 := (xs (i + 2))) hPm (aM_D ht6) hm1 hm2 (by rw [hm3, hm4]; exact hg)
  rw [hm3, hm4] at hcm
  refine x_runi (va_runV (As := [.int ((xs (i + 1))), .int ((xs (i + 2)))]) (rest := []) hC hcm (cwV 2 hts gL_law_X4_clock rfl rfl rfl qdX4_clock ⟨Nat.le_of_ble_eq_true rfl, Nat.le_of_ble_eq_true rfl⟩) (x_preV hK (x_recv hK (hPm 0 _ rfl) rfl)) rfl rfl hl.1 rfl (lv_room (Nat.le_of_ble_eq_true rfl)) dL_law_524 ⟨by show ce + 1 + 0 ≤ 601024; omega, by show sl + 6 + 0 ≤ 7293034; omega⟩) hS hsM (fun r2 H2 locs hfr2 hq2 hS => ?_)
  obtain ⟨hv2, mi2, ma2, hPm2, hmi2, hJ2⟩ := afterM hJ1 hfr2 hq2
  refine lv_istore (lv' := [(7, .int r2), (6, .int (nI (k2 (vS n (xs (i + 1))) (inR (nI 0) (nI 1000000) (xs (i + 2)))))), (0, .ref sb), (1, .ref xa), (2, .ref (b 0)), (3, .ref oA), (4, .ref oD), (5, .int (nI i))]) hx hb dL_law_527 hl (by decide) rfl (fun ls hl => ?_)
  refine lv_aload_n hx hb dL_law_529 rfl (lv_at hl 4 rfl) ?_
  refine x_rd (va_runV (As := []) (rest := []) hC (c_X4_thrown hPm2) (cwV 0 hts gL_law_X4_thrown rfl rfl rfl qdX4_thrown ⟨Nat.le_of_ble_eq_true rfl, Nat.le_of_ble_eq_true rfl⟩) (x_preV hK (x_recv hK (hPm2 0 _ rfl) rfl)) rfl rfl hl.1 rfl (lv_room (Nat.le_of_ble_eq_true rfl)) dL_law_530 ⟨by show ce + 1 + 0 + 0 ≤ 601024; omega, by show sl + 6 + 0 + 0 ≤ 7293034; omega⟩) ?_
  rw [hmi2]
  refine W.eq (g2 := F0 m 533 ls [.int (nI (k2 (vS n (xs (i + 1))) (inR (nI 0) (nI 1000000) (xs (i + 2)))))]) rfl ?_
  refine lv_iload hx hb dL_law_533 (lv_at hl 1 rfl) ?_
  refine x_icmp_eq (tgt := 540) hx hb (by omega) (by omega) dL_law_535 (by decide) (fun c_1 => ?_) (fun c_1 => ?_)
  · refine lv_iload hx hb dL_law_540 (lv_at hl 1 rfl) ?_
    refine x_if_neN (tgt := 557) hx hb (by omega) dL_law_542 (by decide) (fun c_2 => ?_) (fun c_2 => ?_)
    · refine lv_goto (tgt := 1455) hx hb dL_law_557 (by decide) ?_
      refine W.widen (k := ce + 8) (n := sl + 100) (by omega) (by omega) ?_
      exact kont _ _ ls ⟨tn, _, _, _, _, _, ow, od, hJ2, ⟨hg, ho, hz⟩⟩ hS (lv_sub hl [2, 3, 4, 5, 6, 7] rfl)
    · have e8 : ow 0 = r2.toInt64 := (hov c_2).trans (congrArg Int32.toInt64 ((rfl).trans (hv2 c_2).symm))
      refine lv_aload_n hx hb dL_law_545 rfl (lv_at hl 5 rfl) ?_
      refine lv_iconst (v := nI 0) hx hb dL_law_546 (by decide +kernel) ?_
      refine x_laldN hx hb hK (hJ2.2.2.2.1.1) dL_law_547 ?_
      rw [e8]
      refine lv_iload hx hb dL_law_548 (lv_at hl 0 rfl) ?_
      refine lv_i2l (v := r2.toInt64) hx hb dL_law_550 rfl ?_
      refine W.lcmp hx hb dL_law_551 ?_
      rw [lg_self]
      refine W.eq (g2 := F0 m 552 ls [.int (nI 0)]) rfl ?_
      refine x_if_eqN (tgt := 557) hx hb (by omega) dL_law_552 (by decide) (fun c_3 => ?_) (fun c_3 => ?_)
      · refine lv_goto (tgt := 1455) hx hb dL_law_557 (by decide) ?_
        refine W.widen (k := ce + 8) (n := sl + 100) (by omega) (by omega) ?_
        exact kont _ _ ls ⟨tn, _, _, _, _, _, ow, od, hJ2, ⟨hg, ho, hz⟩⟩ hS (lv_sub hl [2, 3, 4, 5, 6, 7] rfl)
      · exact absurd c_3 (Nat.lt_irrefl 0)
  · exact absurd rfl c_1
set_option maxHeartbeats 4000000 in
set_option maxRecDepth 100000 in
theorem lc_addHalo {p : Program} {l : Launch} {e : Env} {s : State} {m : MethodId} {below : List Frame} {meth : Method} {c : Code} {Q : State → Prop} {G : gT} {zA : Nat × Nat} {sb Ls : Nat} {xs : Nat → Int32} {xa : Nat} {b : Nat → Nat} {oA oD i ce sl : Nat} {H : Heap} {locs : List Loc} (hF : LFix p l s m c G zA sb Ls xs) (hce : ce + 8 ≤ 601024) (hsl : sl + 100 ≤ 7293034) (hi : i + 5 ≤ Ls) (hI : LI G zA.1 s.heap.size xa b oA oD H) (hS : va_S (aN s) s.heap H locs) (ls : Array Slot) (hl : lv_has ls 9 [(0, .ref sb), (1, .ref xa), (2, .ref (b 0)), (3, .ref oA), (4, .ref oD), (5, .int (nI i))]) (kont : ∀ (H : Heap) (locs : List Loc) (ls : Array Slot), LI G zA.1 s.heap.size xa b oA oD H → va_S (aN s) s.heap H locs → lv_has ls 9 [(0, .ref sb), (1, .ref xa), (2, .ref (b 0)), (3, .ref oA), (4, .ref oD), (5, .int (nI i))] → W p l e rmL_law s m [.ref sb].toArray below meth c H locs (ce + 8) (sl + 100) Q (F0 m 1455 ls [])) : W p l e rmL_law s m [.ref sb].toArray below meth c H locs ce sl Q (F0 m 560 ls []) := by
  obtain ⟨hx, hb, hml, hown, hts, hK, hZ, hN, hX, hsb, hst, hdn, hLs⟩ := hF
  have hC : CallFix p m c cL_law 9 s [.ref sb].toArray wsL_law RL := ⟨hx, hb, hml, hown, hts⟩
  have hbA : ¬ aN s sb := Nat.not_le.mpr hsb
  obtain ⟨tg, n, hn, L, T, o, ov, od, hJ, hg, ho, hz⟩ := hI
  have hn12 := hg.n
  have hh16 := hg.hn
  have hgt : ∀ q, tg q ≠ 0 → q < H.size := fun q h => (hJ.1 q h).2
  obtain ⟨hsA, hsD, hoA, hoD⟩ := hJ.sW
  obtain ⟨fx, hxo⟩ := hJ.2.1.xo
  refine lv_aload_n hx hb dL_law_560 rfl (lv_at hl 1 rfl) ?_
  refine lv_aload_n hx hb dL_law_561 rfl (lv_at hl 0 rfl) ?_
  refine lv_iload hx hb dL_law_562 (lv_at hl 5 rfl) ?_
  refine lv_iconst (v := nI 1) hx hb dL_law_564 (by decide +kernel) ?_
  refine x_iaddN hx hb dL_law_565 ?_
  refine x_sldN hx hb hX hsb hbA hS (by omega) (by omega) dL_law_566 ?_
  refine lv_aload_n hx hb dL_law_567 rfl (lv_at hl 0 rfl) ?_
  refine lv_iload hx hb dL_law_568 (lv_at hl 5 rfl) ?_
  refine lv_iconst (v := nI 2) hx hb dL_law_570 (by decide +kernel) ?_
  refine x_iaddN hx hb dL_law_571 ?_
  refine x_sldN hx hb hX hsb hbA hS (by omega) (by omega) dL_law_572 ?_
  refine lv_aload_n hx hb dL_law_573 rfl (lv_at hl 0 rfl) ?_
  refine lv_iload hx hb dL_law_574 (lv_at hl 5 rfl) ?_
  refine lv_iconst (v := nI 3) hx hb dL_law_576 (by decide +kernel) ?_
  refine x_iaddN hx hb dL_law_577 ?_
  refine x_sldN hx hb hX hsb hbA hS (by omega) (by omega) dL_law_578 ?_
  refine lv_aload_n hx hb dL_law_579 rfl (lv_at hl 0 rfl) ?_
  refine lv_iload hx hb dL_law_580 (lv_at hl 5 rfl) ?_
  refine lv_iconst (v := nI 4) hx hb dL_law_582 (by decide +kernel) ?_
  refine x_iaddN hx hb dL_law_583 ?_
  refine x_sldN hx hb hX hsb hbA hS (by omega) (by omega) dL_law_584 ?_
  refine lv_aload_n hx hb dL_law_585 rfl (lv_at hl 3 rfl) ?_
  refine x_runi (vx_runSW (As := [.ref xa, .int ((xs (i + 1))), .int ((xs (i + 2))), .int ((xs (i + 3))), .int ((xs (i + 4))), .ref oA]) (rest := []) hC (c_L_addHalo (k_addHalo hJ.2.1 hgt hg ho hst) hxo (hJ.2.2.2.1.1) hoA) (vx_cwSW 6 hts gL_law_L_addHalo rfl rfl rfl qdL_addHalo.2 ⟨Nat.le_of_ble_eq_true rfl, Nat.le_of_ble_eq_true rfl⟩) (x_preSw hK ((hZ.at hS).narrow hsA) hN) rfl rfl hl.1 rfl (lv_room (Nat.le_of_ble_eq_true rfl)) dL_law_586 ⟨by show ce + 2 ≤ 601024; omega, by show sl + 26 ≤ 7293034; omega⟩) hS hsA (fun r1 H1 locs hfr1 hq1 hS => ?_)
  obtain ⟨er1, tn, ow, hJ1, hov⟩ := afterW hJ hq1 (fun v H2 h => h) (fun z => ⟨rfl, if_neg z, rfl, if_neg z, rfl⟩)
  rw [er1]
  have hK3 : k2 (inR (nI 0) (nI 100000) (xs (i + 1)) && inR (nI 0) (nI 999) (xs (i + 2)) && inR (nI 1) (nI 99) (xs (i + 3)) && inR (-1) (nI 1) (xs (i + 4))) (decide (¬ hn = 16)) ≤ 3 := qk2_le _ _
  refine lv_istore (lv' := [(6, .int (nI (k2 (inR (nI 0) (nI 100000) (xs (i + 1)) && inR (nI 0) (nI 999) (xs (i + 2)) && inR (nI 1) (nI 99) (xs (i + 3)) && inR (-1) (nI 1) (xs (i + 4))) (decide (¬ hn = 16))))), (0, .ref sb), (1, .ref xa), (2, .ref (b 0)), (3, .ref oA), (4, .ref oD), (5, .int (nI i))]) hx hb dL_law_589 hl (by decide) rfl (fun ls hl => ?_)
  refine lv_aload_n hx hb dL_law_591 rfl (lv_at hl 3 rfl) ?_
  refine lv_aload_n hx hb dL_law_592 rfl (lv_at hl 1 rfl) ?_
  refine lv_iload hx hb dL_law_593 (lv_at hl 6 rfl) ?_
  refine lv_iconst (v := nI 1) hx hb dL_law_595 (by decide +kernel) ?_
  refine x_iaddN hx hb dL_law_596 ?_
  refine x_sldN hx hb hX hsb hbA hS (by omega) (by omega) dL_law_597 ?_
  refine lv_aload_n hx hb dL_law_598 rfl (lv_at hl 1 rfl) ?_
  refine lv_iload hx hb dL_law_599 (lv_at hl 6 rfl) ?_
  refine lv_iconst (v := nI 2) hx hb dL_law_601 (by decide +kernel) ?_
  refine x_iaddN hx hb dL_law_602 ?_
  refine x_sldN hx hb hX hsb hbA hS (by omega) (by omega) dL_law_603 ?_
  refine lv_aload_n hx hb dL_law_604 rfl (lv_at hl 1 rfl) ?_
  refine lv_iload hx hb dL_law_605 (lv_at hl 6 rfl) ?_
  refine lv_iconst (v := nI 3) hx hb dL_law_607 (by decide +kernel) ?_
  refine x_iaddN hx hb dL_law_608 ?_
  refine x_sldN hx hb hX hsb hbA hS (by omega) (by omega) dL_law_609 ?_
  refine lv_aload_n hx hb dL_law_610 rfl (lv_at hl 1 rfl) ?_
  refine lv_iload hx hb dL_law_611 (lv_at hl 6 rfl) ?_
  refine lv_iconst (v := nI 4) hx hb dL_law_613 (by decide +kernel) ?_
  refine x_iaddN hx hb dL_law_614 ?_
  refine x_sldN hx hb hX hsb hbA hS (by omega) (by omega) dL_law_615 ?_
  obtain ⟨⟨mi, ma, hPm, hm1, hm2, hm3, hm4⟩, ht6⟩ := hJ1.2.2.1
  have hsM : ∀ q, aM tn H1 q → aN s q := sgM hJ1.1 hJ1.2.2.2.2.2
  have hcm := c_X4_addHalo (l := l) (A := aM tn H1) (x1 := (xs (i + 1))) (x2 := (xs (i + 2))) (x3 := (xs (i + 3))) (x4 := (xs (i + 4))) hPm (aM_D ht6) hm1 hm2 (by rw [hm3, hm4]; exact hg) (fun q h9 => Or.inr h9)
  rw [hm3, hm4] at hcm
  refine x_runi (va_runV (As := [.int ((xs (i + 1))), .int ((xs (i + 2))), .int ((xs (i + 3))), .int ((xs (i + 4)))]) (rest := []) hC hcm (cwV 4 hts gL_law_X4_addHalo rfl rfl rfl qdX4_addHalo ⟨Nat.le_of_ble_eq_true rfl, Nat.le_of_ble_eq_true rfl⟩) (x_preV hK (x_recv hK (hPm 0 _ rfl) rfl)) rfl rfl hl.1 rfl (lv_room (Nat.le_of_ble_eq_true rfl)) dL_law_616 ⟨by show ce + 2 + 1 ≤ 601024; omega, by show sl + 26 + 4 ≤ 7293034; omega⟩) hS hsM (fun r2 H2 locs hfr2 hq2 hS => ?_)
  obtain ⟨hv2, mi2, ma2, hPm2, hmi2, hJ2⟩ := afterM hJ1 hfr2 hq2
  refine lv_istore (lv' := [(7, .int r2), (6, .int (nI (k2 (inR (nI 0) (nI 100000) (xs (i + 1)) && inR (nI 0) (nI 999) (xs (i + 2)) && inR (nI 1) (nI 99) (xs (i + 3)) && inR (-1) (nI 1) (xs (i + 4))) (decide (¬ hn = 16))))), (0, .ref sb), (1, .ref xa), (2, .ref (b 0)), (3, .ref oA), (4, .ref oD), (5, .int (nI i))]) hx hb dL_law_619 hl (by decide) rfl (fun ls hl => ?_)
  refine lv_aload_n hx hb dL_law_621 rfl (lv_at hl 4 rfl) ?_
  refine x_rd (va_runV (As := []) (rest := []) hC (c_X4_thrown hPm2) (cwV 0 hts gL_law_X4_thrown rfl rfl rfl qdX4_thrown ⟨Nat.le_of_ble_eq_true rfl, Nat.le_of_ble_eq_true rfl⟩) (x_preV hK (x_recv hK (hPm2 0 _ rfl) rfl)) rfl rfl hl.1 rfl (lv_room (Nat.le_of_ble_eq_true rfl)) dL_law_622 ⟨by show ce + 2 + 1 + 0 ≤ 601024; omega, by show sl + 26 + 4 + 0 ≤ 7293034; omega⟩) ?_
  rw [hmi2]
  refine W.eq (g2 := F0 m 625 ls [.int (nI (k2 (inR (nI 0) (nI 100000) (xs (i + 1)) && inR (nI 0) (nI 999) (xs (i + 2)) && inR (nI 1) (nI 99) (xs (i + 3)) && inR (-1) (nI 1) (xs (i + 4))) (decide (¬ hn = 16))))]) rfl ?_
  refine lv_iload hx hb dL_law_625 (lv_at hl 1 rfl) ?_
  refine x_icmp_eq (tgt := 632) hx hb (by omega) (by omega) dL_law_627 (by decide) (fun c_1 => ?_) (fun c_1 => ?_)
  · refine lv_iload hx hb dL_law_632 (lv_at hl 1 rfl) ?_
    refine x_if_neN (tgt := 649) hx hb (by omega) dL_law_634 (by decide) (fun c_2 => ?_) (fun c_2 => ?_)
    · refine lv_goto (tgt := 1455) hx hb dL_law_649 (by decide) ?_
      refine W.widen (k := ce + 8) (n := sl + 100) (by omega) (by omega) ?_
      exact kont _ _ ls ⟨tn, _, _, _, _, _, ow, od, hJ2, v_addHalo ⟨hg, ho, hz⟩⟩ hS (lv_sub hl [2, 3, 4, 5, 6, 7] rfl)
    · have e8 : ow 0 = r2.toInt64 := (hov c_2).trans (congrArg Int32.toInt64 ((rfl).trans (hv2 c_2).symm))
      refine lv_aload_n hx hb dL_law_637 rfl (lv_at hl 5 rfl) ?_
      refine lv_iconst (v := nI 0) hx hb dL_law_638 (by decide +kernel) ?_
      refine x_laldN hx hb hK (hJ2.2.2.2.1.1) dL_law_639 ?_
      rw [e8]
      refine lv_iload hx hb dL_law_640 (lv_at hl 0 rfl) ?_
      refine lv_i2l (v := r2.toInt64) hx hb dL_law_642 rfl ?_
      refine W.lcmp hx hb dL_law_643 ?_
      rw [lg_self]
      refine W.eq (g2 := F0 m 644 ls [.int (nI 0)]) rfl ?_
      refine x_if_eqN (tgt := 649) hx hb (by omega) dL_law_644 (by decide) (fun c_3 => ?_) (fun c_3 => ?_)
      · refine lv_goto (tgt := 1455) hx hb dL_law_649 (by decide) ?_
        refine W.widen (k := ce + 8) (n := sl + 100) (by omega) (by omega) ?_
        exact kont _ _ ls ⟨tn, _, _, _, _, _, ow, od, hJ2, v_addHalo ⟨hg, ho, hz⟩⟩ hS (lv_sub hl [2, 3, 4, 5, 6, 7] rfl)
      · exact absurd c_3 (Nat.lt_irrefl 0)
  · exact absurd rfl c_1
set_option maxHeartbeats 4000000 in
set_option maxRecDepth 100000 in
theorem lc_comes {p : Program} {l : Launch} {e : Env} {s : State} {m : MethodId} {below : List Frame} {meth : Method} {c : Code} {Q : State → Prop} {G : gT} {zA : Nat × Nat} {sb Ls : Nat} {xs : Nat → Int32} {xa : Nat} {b : Nat → Nat} {oA oD i ce sl : Nat} {H : Heap} {locs : List Loc} (hF : LFix p l s m c G zA sb Ls xs) (hce : ce + 8 ≤ 601024) (hsl : sl + 100 ≤ 7293034) (hi : i + 5 ≤ Ls) (hI : LI G zA.1 s.heap.size xa b oA oD H) (hS : va_S (aN s) s.heap H locs) (ls : Array Slot) (hl : lv_has ls 9 [(0, .ref sb), (1, .ref xa), (2, .ref (b 0)), (3, .ref oA), (4, .ref oD), (5, .int (nI i))]) (kont : ∀ (H : Heap) (locs : List Loc) (ls : Array Slot), LI G zA.1 s.heap.size xa b oA oD H → va_S (aN s) s.heap H locs → lv_has ls 9 [(0, .ref sb), (1, .ref xa), (2, .ref (b 0)), (3, .ref oA), (4, .ref oD), (5, .int (nI i))] → W p l e rmL_law s m [.ref sb].toArray below meth c H locs (ce + 8) (sl + 100) Q (F0 m 1455 ls [])) : W p l e rmL_law s m [.ref sb].toArray below meth c H locs ce sl Q (F0 m 652 ls []) := by
  obtain ⟨hx, hb, hml, hown, hts, hK, hZ, hN, hX, hsb, hst, hdn, hLs⟩ := hF
  have hC : CallFix p m c cL_law 9 s [.ref sb].toArray wsL_law RL := ⟨hx, hb, hml, hown, hts⟩
  have hbA : ¬ aN s sb := Nat.not_le.mpr hsb
  obtain ⟨tg, n, hn, L, T, o, ov, od, hJ, hg, ho, hz⟩ := hI
  have hn12 := hg.n
  have hh16 := hg.hn
  have hgt : ∀ q, tg q ≠ 0 → q < H.size := fun q h => (hJ.1 q h).2
  obtain ⟨hsA, hsD, hoA, hoD⟩ := hJ.sW
  obtain ⟨fx, hxo⟩ := hJ.2.1.xo
  refine lv_aload_n hx hb dL_law_652 rfl (lv_at hl 1 rfl) ?_
  refine lv_aload_n hx hb dL_law_653 rfl (lv_at hl 0 rfl) ?_
  refine lv_iload hx hb dL_law_654 (lv_at hl 5 rfl) ?_
  refine lv_iconst (v := nI 1) hx hb dL_law_656 (by decide +kernel) ?_
  refine x_iaddN hx hb dL_law_657 ?_
  refine x_sldN hx hb hX hsb hbA hS (by omega) (by omega) dL_law_658 ?_
  refine lv_aload_n hx hb dL_law_659 rfl (lv_at hl 0 rfl) ?_
  refine lv_iload hx hb dL_law_660 (lv_at hl 5 rfl) ?_
  refine lv_iconst (v := nI 2) hx hb dL_law_662 (by decide +kernel) ?_
  refine x_iaddN hx hb dL_law_663 ?_
  refine x_sldN hx hb hX hsb hbA hS (by omega) (by omega) dL_law_664 ?_
  refine lv_aload_n hx hb dL_law_665 rfl (lv_at hl 3 rfl) ?_
  refine x_runi (vx_runSW (As := [.ref xa, .int ((xs (i + 1))), .int ((xs (i + 2))), .ref oA]) (rest := []) hC (c_L_comes (k_comes hJ.2.1 hgt hg ho hst) hxo (hJ.2.2.2.1.1) hoA) (vx_cwSW 4 hts gL_law_L_comes rfl rfl rfl qdL_comes.2 ⟨Nat.le_of_ble_eq_true rfl, Nat.le_of_ble_eq_true rfl⟩) (x_preSw hK ((hZ.at hS).narrow hsA) hN) rfl rfl hl.1 rfl (lv_room (Nat.le_of_ble_eq_true rfl)) dL_law_666 ⟨by show ce + 1 ≤ 601024; omega, by show sl + 6 ≤ 7293034; omega⟩) hS hsA (fun r1 H1 locs hfr1 hq1 hS => ?_)
  obtain ⟨er1, tn, ow, hJ1, hov⟩ := afterW hJ hq1 (fun v H2 h => h) (fun _ => ⟨rfl, rfl, rfl, rfl, rfl⟩)
  rw [er1]
  have hK3 : k1 (vS hn (xs (i + 1)) && vS n (xs (i + 2))) ≤ 3 := qk1_le _
  refine lv_istore (lv' := [(6, .int (nI (k1 (vS hn (xs (i + 1)) && vS n (xs (i + 2)))))), (0, .ref sb), (1, .ref xa), (2, .ref (b 0)), (3, .ref oA), (4, .ref oD), (5, .int (nI i))]) hx hb dL_law_669 hl (by decide) rfl (fun ls hl => ?_)
  refine lv_aload_n hx hb dL_law_671 rfl (lv_at hl 3 rfl) ?_
  refine lv_aload_n hx hb dL_law_672 rfl (lv_at hl 1 rfl) ?_
  refine lv_iload hx hb dL_law_673 (lv_at hl 6 rfl) ?_
  refine lv_iconst (v := nI 1) hx hb dL_law_675 (by decide +kernel) ?_
  refine x_iaddN hx hb dL_law_676 ?_
  refine x_sldN hx hb hX hsb hbA hS (by omega) (by omega) dL_law_677 ?_
  refine lv_aload_n hx hb dL_law_678 rfl (lv_at hl 1 rfl) ?_
  refine lv_iload hx hb dL_law_679 (lv_at hl 6 rfl) ?_
  refine lv_iconst (v := nI 2) hx hb dL_law_681 (by decide +kernel) ?_
  refine x_iaddN hx hb dL_law_682 ?_
  refine x_sldN hx hb hX hsb hbA hS (by omega) (by omega) dL_law_683 ?_
  obtain ⟨⟨mi, ma, hPm, hm1, hm2, hm3, hm4⟩, ht6⟩ := hJ1.2.2.1
  have hsM : ∀ q, aM tn H1 q → aN s q := sgM hJ1.1 hJ1.2.2.2.2.2
  have hcm := c_X4_comes (l := l) (A := aM tn H1) (x1 := (xs (i + 1))) (x2 := (xs (i + 2))) hPm (aM_D ht6) hm1 hm2 (by rw [hm3, hm4]; exact hg)
  rw [hm3, hm4] at hcm
  refine x_runi (va_runV (As := [.int ((xs (i + 1))), .int ((xs (i + 2)))]) (rest := []) hC hcm (cwV 2 hts gL_law_X4_comes rfl rfl rfl qdX4_comes ⟨Nat.le_of_ble_eq_true rfl, Nat.le_of_ble_eq_true rfl⟩) (x_preV hK (x_recv hK (hPm 0 _ rfl) rfl)) rfl rfl hl.1 rfl (lv_room (Nat.le_of_ble_eq_true rfl)) dL_law_684 ⟨by show ce + 1 + 0 ≤ 601024; omega, by show sl + 6 + 0 ≤ 7293034; omega⟩) hS hsM (fun r2 H2 locs hfr2 hq2 hS => ?_)
  obtain ⟨hv2, mi2, ma2, hPm2, hmi2, hJ2⟩ := afterM hJ1 hfr2 hq2
  refine lv_istore (lv' := [(7, .int r2), (6, .int (nI (k1 (vS hn (xs (i + 1)) && vS n (xs (i + 2)))))), (0, .ref sb), (1, .ref xa), (2, .ref (b 0)), (3, .ref oA), (4, .ref oD), (5, .int (nI i))]) hx hb dL_law_687 hl (by decide) rfl (fun ls hl => ?_)
  refine lv_aload_n hx hb dL_law_689 rfl (lv_at hl 4 rfl) ?_
  refine x_rd (va_runV (As := []) (rest := []) hC (c_X4_thrown hPm2) (cwV 0 hts gL_law_X4_thrown rfl rfl rfl qdX4_thrown ⟨Nat.le_of_ble_eq_true rfl, Nat.le_of_ble_eq_true rfl⟩) (x_preV hK (x_recv hK (hPm2 0 _ rfl) rfl)) rfl rfl hl.1 rfl (lv_room (Nat.le_of_ble_eq_true rfl)) dL_law_690 ⟨by show ce + 1 + 0 + 0 ≤ 601024; omega, by show sl + 6 + 0 + 0 ≤ 7293034; omega⟩) ?_
  rw [hmi2]
  refine W.eq (g2 := F0 m 693 ls [.int (nI (k1 (vS hn (xs (i + 1)) && vS n (xs (i + 2)))))]) rfl ?_
  refine lv_iload hx hb dL_law_693 (lv_at hl 1 rfl) ?_
  refine x_icmp_eq (tgt := 700) hx hb (by omega) (by omega) dL_law_695 (by decide) (fun c_1 => ?_) (fun c_1 => ?_)
  · refine lv_iload hx hb dL_law_700 (lv_at hl 1 rfl) ?_
    refine x_if_neN (tgt := 717) hx hb (by omega) dL_law_702 (by decide) (fun c_2 => ?_) (fun c_2 => ?_)
    · refine lv_goto (tgt := 1455) hx hb dL_law_717 (by decide) ?_
      refine W.widen (k := ce + 8) (n := sl + 100) (by omega) (by omega) ?_
      exact kont _ _ ls ⟨tn, _, _, _, _, _, ow, od, hJ2, ⟨hg, ho, hz⟩⟩ hS (lv_sub hl [2, 3, 4, 5, 6, 7] rfl)
    · have e8 : ow 0 = r2.toInt64 := (hov c_2).trans (congrArg Int32.toInt64 ((rfl).trans (hv2 c_2).symm))
      refine lv_aload_n hx hb dL_law_705 rfl (lv_at hl 5 rfl) ?_
      refine lv_iconst (v := nI 0) hx hb dL_law_706 (by decide +kernel) ?_
      refine x_laldN hx hb hK (hJ2.2.2.2.1.1) dL_law_707 ?_
      rw [e8]
      refine lv_iload hx hb dL_law_708 (lv_at hl 0 rfl) ?_
      refine lv_i2l (v := r2.toInt64) hx hb dL_law_710 rfl ?_
      refine W.lcmp hx hb dL_law_711 ?_
      rw [lg_self]
      refine W.eq (g2 := F0 m 712 ls [.int (nI 0)]) rfl ?_
      refine x_if_eqN (tgt := 717) hx hb (by omega) dL_law_712 (by decide) (fun c_3 => ?_) (fun c_3 => ?_)
      · refine lv_goto (tgt := 1455) hx hb dL_law_717 (by decide) ?_
        refine W.widen (k := ce + 8) (n := sl + 100) (by omega) (by omega) ?_
        exact kont _ _ ls ⟨tn, _, _, _, _, _, ow, od, hJ2, ⟨hg, ho, hz⟩⟩ hS (lv_sub hl [2, 3, 4, 5, 6, 7] rfl)
      · exact absurd c_3 (Nat.lt_irrefl 0)
  · exact absurd rfl c_1
set_option maxHeartbeats 4000000 in
set_option maxRecDepth 100000 in
theorem lc_reading {p : Program} {l : Launch} {e : Env} {s : State} {m : MethodId} {below : List Frame} {meth : Method} {c : Code} {Q : State → Prop} {G : gT} {zA : Nat × Nat} {sb Ls : Nat} {xs : Nat → Int32} {xa : Nat} {b : Nat → Nat} {oA oD i ce sl : Nat} {H : Heap} {locs : List Loc} (hF : LFix p l s m c G zA sb Ls xs) (hce : ce + 8 ≤ 601024) (hsl : sl + 100 ≤ 7293034) (hi : i + 5 ≤ Ls) (hI : LI G zA.1 s.heap.size xa b oA oD H) (hS : va_S (aN s) s.heap H locs) (ls : Array Slot) (hl : lv_has ls 9 [(0, .ref sb), (1, .ref xa), (2, .ref (b 0)), (3, .ref oA), (4, .ref oD), (5, .int (nI i))]) (kont : ∀ (H : Heap) (locs : List Loc) (ls : Array Slot), LI G zA.1 s.heap.size xa b oA oD H → va_S (aN s) s.heap H locs → lv_has ls 9 [(0, .ref sb), (1, .ref xa), (2, .ref (b 0)), (3, .ref oA), (4, .ref oD), (5, .int (nI i))] → W p l e rmL_law s m [.ref sb].toArray below meth c H locs (ce + 8) (sl + 100) Q (F0 m 1455 ls [])) : W p l e rmL_law s m [.ref sb].toArray below meth c H locs ce sl Q (F0 m 720 ls []) := by
  obtain ⟨hx, hb, hml, hown, hts, hK, hZ, hN, hX, hsb, hst, hdn, hLs⟩ := hF
  have hC : CallFix p m c cL_law 9 s [.ref sb].toArray wsL_law RL := ⟨hx, hb, hml, hown, hts⟩
  have hbA : ¬ aN s sb := Nat.not_le.mpr hsb
  obtain ⟨tg, n, hn, L, T, o, ov, od, hJ, hg, ho, hz⟩ := hI
  have hn12 := hg.n
  have hh16 := hg.hn
  have hgt : ∀ q, tg q ≠ 0 → q < H.size := fun q h => (hJ.1 q h).2
  obtain ⟨hsA, hsD, hoA, hoD⟩ := hJ.sW
  obtain ⟨fx, hxo⟩ := hJ.2.1.xo
  refine lv_aload_n hx hb dL_law_720 rfl (lv_at hl 1 rfl) ?_
  refine lv_aload_n hx hb dL_law_721 rfl (lv_at hl 0 rfl) ?_
  refine lv_iload hx hb dL_law_722 (lv_at hl 5 rfl) ?_
  refine lv_iconst (v := nI 1) hx hb dL_law_724 (by decide +kernel) ?_
  refine x_iaddN hx hb dL_law_725 ?_
  refine x_sldN hx hb hX hsb hbA hS (by omega) (by omega) dL_law_726 ?_
  refine lv_aload_n hx hb dL_law_727 rfl (lv_at hl 0 rfl) ?_
  refine lv_iload hx hb dL_law_728 (lv_at hl 5 rfl) ?_
  refine lv_iconst (v := nI 2) hx hb dL_law_730 (by decide +kernel) ?_
  refine x_iaddN hx hb dL_law_731 ?_
  refine x_sldN hx hb hX hsb hbA hS (by omega) (by omega) dL_law_732 ?_
  refine lv_aload_n hx hb dL_law_733 rfl (lv_at hl 3 rfl) ?_
  refine x_runi (vx_runSW (As := [.ref xa, .int ((xs (i + 1))), .int ((xs (i + 2))), .ref oA]) (rest := []) hC (c_L_reading (k_reading hJ.2.1 hgt hg ho hst) hxo (hJ.2.2.2.1.1) hoA) (vx_cwSW 4 hts gL_law_L_reading rfl rfl rfl qdL_reading.2 ⟨Nat.le_of_ble_eq_true rfl, Nat.le_of_ble_eq_true rfl⟩) (x_preSw hK ((hZ.at hS).narrow hsA) hN) rfl rfl hl.1 rfl (lv_room (Nat.le_of_ble_eq_true rfl)) dL_law_734 ⟨by show ce + 1 ≤ 601024; omega, by show sl + 6 ≤ 7293034; omega⟩) hS hsA (fun r1 H1 locs hfr1 hq1 hS => ?_)
  obtain ⟨er1, tn, ow, hJ1, hov⟩ := afterW hJ hq1 (fun v H2 h => h) (fun _ => ⟨rfl, rfl, rfl, rfl, rfl⟩)
  rw [er1]
  have hK3 : k1 (vS hn (xs (i + 1)) && vS n (xs (i + 2))) ≤ 3 := qk1_le _
  refine lv_istore (lv' := [(6, .int (nI (k1 (vS hn (xs (i + 1)) && vS n (xs (i + 2)))))), (0, .ref sb), (1, .ref xa), (2, .ref (b 0)), (3, .ref oA), (4, .ref oD), (5, .int (nI i))]) hx hb dL_law_737 hl (by decide) rfl (fun ls hl => ?_)
  refine lv_aload_n hx hb dL_law_739 rfl (lv_at hl 3 rfl) ?_
  refine lv_aload_n hx hb dL_law_740 rfl (lv_at hl 1 rfl) ?_
  refine lv_iload hx hb dL_law_741 (lv_at hl 6 rfl) ?_
  refine lv_iconst (v := nI 1) hx hb dL_law_743 (by decide +kernel) ?_
  refine x_iaddN hx hb dL_law_744 ?_
  refine x_sldN hx hb hX hsb hbA hS (by omega) (by omega) dL_law_745 ?_
  refine lv_aload_n hx hb dL_law_746 rfl (lv_at hl 1 rfl) ?_
  refine lv_iload hx hb dL_law_747 (lv_at hl 6 rfl) ?_
  refine lv_iconst (v := nI 2) hx hb dL_law_749 (by decide +kernel) ?_
  refine x_iaddN hx hb dL_law_750 ?_
  refine x_sldN hx hb hX hsb hbA hS (by omega) (by omega) dL_law_751 ?_
  obtain ⟨⟨mi, ma, hPm, hm1, hm2, hm3, hm4⟩, ht6⟩ := hJ1.2.2.1
  have hsM : ∀ q, aM tn H1 q → aN s q := sgM hJ1.1 hJ1.2.2.2.2.2
  have hcm := c_X4_reading (l := l) (A := aM tn H1) (x1 := (xs (i + 1))) (x2 := (xs (i + 2))) hPm (aM_D ht6) hm1 hm2 (by rw [hm3, hm4]; exact hg)
  rw [hm3, hm4] at hcm
  refine x_runi (va_runV (As := [.int ((xs (i + 1))), .int ((xs (i + 2)))]) (rest := []) hC hcm (cwV 2 hts gL_law_X4_reading rfl rfl rfl qdX4_reading ⟨Nat.le_of_ble_eq_true rfl, Nat.le_of_ble_eq_true rfl⟩) (x_preV hK (x_recv hK (hPm 0 _ rfl) rfl)) rfl rfl hl.1 rfl (lv_room (Nat.le_of_ble_eq_true rfl)) dL_law_752 ⟨by show ce + 1 + 0 ≤ 601024; omega, by show sl + 6 + 0 ≤ 7293034; omega⟩) hS hsM (fun r2 H2 locs hfr2 hq2 hS => ?_)
  obtain ⟨hv2, mi2, ma2, hPm2, hmi2, hJ2⟩ := afterM hJ1 hfr2 hq2
  refine lv_istore (lv' := [(7, .int r2), (6, .int (nI (k1 (vS hn (xs (i + 1)) && vS n (xs (i + 2)))))), (0, .ref sb), (1, .ref xa), (2, .ref (b 0)), (3, .ref oA), (4, .ref oD), (5, .int (nI i))]) hx hb dL_law_755 hl (by decide) rfl (fun ls hl => ?_)
  refine lv_aload_n hx hb dL_law_757 rfl (lv_at hl 4 rfl) ?_
  refine x_rd (va_runV (As := []) (rest := []) hC (c_X4_thrown hPm2) (cwV 0 hts gL_law_X4_thrown rfl rfl rfl qdX4_thrown ⟨Nat.le_of_ble_eq_true rfl, Nat.le_of_ble_eq_true rfl⟩) (x_preV hK (x_recv hK (hPm2 0 _ rfl) rfl)) rfl rfl hl.1 rfl (lv_room (Nat.le_of_ble_eq_true rfl)) dL_law_758 ⟨by show ce + 1 + 0 + 0 ≤ 601024; omega, by show sl + 6 + 0 + 0 ≤ 7293034; omega⟩) ?_
  rw [hmi2]
  refine W.eq (g2 := F0 m 761 ls [.int (nI (k1 (vS hn (xs (i + 1)) && vS n (xs (i + 2)))))]) rfl ?_
  refine lv_iload hx hb dL_law_761 (lv_at hl 1 rfl) ?_
  refine x_icmp_eq (tgt := 768) hx hb (by omega) (by omega) dL_law_763 (by decide) (fun c_1 => ?_) (fun c_1 => ?_)
  · refine lv_iload hx hb dL_law_768 (lv_at hl 1 rfl) ?_
    refine x_if_neN (tgt := 785) hx hb (by omega) dL_law_770 (by decide) (fun c_2 => ?_) (fun c_2 => ?_)
    · refine lv_goto (tgt := 1455) hx hb dL_law_785 (by decide) ?_
      refine W.widen (k := ce + 8) (n := sl + 100) (by omega) (by omega) ?_
      exact kont _ _ ls ⟨tn, _, _, _, _, _, ow, od, hJ2, ⟨hg, ho, hz⟩⟩ hS (lv_sub hl [2, 3, 4, 5, 6, 7] rfl)
    · have e8 : ow 0 = r2.toInt64 := (hov c_2).trans (congrArg Int32.toInt64 ((rfl).trans (hv2 c_2).symm))
      refine lv_aload_n hx hb dL_law_773 rfl (lv_at hl 5 rfl) ?_
      refine lv_iconst (v := nI 0) hx hb dL_law_774 (by decide +kernel) ?_
      refine x_laldN hx hb hK (hJ2.2.2.2.1.1) dL_law_775 ?_
      rw [e8]
      refine lv_iload hx hb dL_law_776 (lv_at hl 0 rfl) ?_
      refine lv_i2l (v := r2.toInt64) hx hb dL_law_778 rfl ?_
      refine W.lcmp hx hb dL_law_779 ?_
      rw [lg_self]
      refine W.eq (g2 := F0 m 780 ls [.int (nI 0)]) rfl ?_
      refine x_if_eqN (tgt := 785) hx hb (by omega) dL_law_780 (by decide) (fun c_3 => ?_) (fun c_3 => ?_)
      · refine lv_goto (tgt := 1455) hx hb dL_law_785 (by decide) ?_
        refine W.widen (k := ce + 8) (n := sl + 100) (by omega) (by omega) ?_
        exact kont _ _ ls ⟨tn, _, _, _, _, _, ow, od, hJ2, ⟨hg, ho, hz⟩⟩ hS (lv_sub hl [2, 3, 4, 5, 6, 7] rfl)
      · exact absurd c_3 (Nat.lt_irrefl 0)
  · exact absurd rfl c_1
set_option maxHeartbeats 4000000 in
set_option maxRecDepth 100000 in
theorem lc_order {p : Program} {l : Launch} {e : Env} {s : State} {m : MethodId} {below : List Frame} {meth : Method} {c : Code} {Q : State → Prop} {G : gT} {zA : Nat × Nat} {sb Ls : Nat} {xs : Nat → Int32} {xa : Nat} {b : Nat → Nat} {oA oD i ce sl : Nat} {H : Heap} {locs : List Loc} (hF : LFix p l s m c G zA sb Ls xs) (hce : ce + 8 ≤ 601024) (hsl : sl + 100 ≤ 7293034) (hi : i + 5 ≤ Ls) (hI : LI G zA.1 s.heap.size xa b oA oD H) (hS : va_S (aN s) s.heap H locs) (ls : Array Slot) (hl : lv_has ls 9 [(0, .ref sb), (1, .ref xa), (2, .ref (b 0)), (3, .ref oA), (4, .ref oD), (5, .int (nI i))]) (kont : ∀ (H : Heap) (locs : List Loc) (ls : Array Slot), LI G zA.1 s.heap.size xa b oA oD H → va_S (aN s) s.heap H locs → lv_has ls 9 [(0, .ref sb), (1, .ref xa), (2, .ref (b 0)), (3, .ref oA), (4, .ref oD), (5, .int (nI i))] → W p l e rmL_law s m [.ref sb].toArray below meth c H locs (ce + 8) (sl + 100) Q (F0 m 1455 ls [])) : W p l e rmL_law s m [.ref sb].toArray below meth c H locs ce sl Q (F0 m 788 ls []) := by
  obtain ⟨hx, hb, hml, hown, hts, hK, hZ, hN, hX, hsb, hst, hdn, hLs⟩ := hF
  have hC : CallFix p m c cL_law 9 s [.ref sb].toArray wsL_law RL := ⟨hx, hb, hml, hown, hts⟩
  have hbA : ¬ aN s sb := Nat.not_le.mpr hsb
  obtain ⟨tg, n, hn, L, T, o, ov, od, hJ, hg, ho, hz⟩ := hI
  have hn12 := hg.n
  have hh16 := hg.hn
  have hgt : ∀ q, tg q ≠ 0 → q < H.size := fun q h => (hJ.1 q h).2
  obtain ⟨hsA, hsD, hoA, hoD⟩ := hJ.sW
  obtain ⟨fx, hxo⟩ := hJ.2.1.xo
  refine lv_aload_n hx hb dL_law_788 rfl (lv_at hl 1 rfl) ?_
  refine lv_aload_n hx hb dL_law_789 rfl (lv_at hl 0 rfl) ?_
  refine lv_iload hx hb dL_law_790 (lv_at hl 5 rfl) ?_
  refine lv_iconst (v := nI 1) hx hb dL_law_792 (by decide +kernel) ?_
  refine x_iaddN hx hb dL_law_793 ?_
  refine x_sldN hx hb hX hsb hbA hS (by omega) (by omega) dL_law_794 ?_
  refine lv_aload_n hx hb dL_law_795 rfl (lv_at hl 0 rfl) ?_
  refine lv_iload hx hb dL_law_796 (lv_at hl 5 rfl) ?_
  refine lv_iconst (v := nI 2) hx hb dL_law_798 (by decide +kernel) ?_
  refine x_iaddN hx hb dL_law_799 ?_
  refine x_sldN hx hb hX hsb hbA hS (by omega) (by omega) dL_law_800 ?_
  refine lv_aload_n hx hb dL_law_801 rfl (lv_at hl 3 rfl) ?_
  refine x_runi (vx_runSW (As := [.ref xa, .int ((xs (i + 1))), .int ((xs (i + 2))), .ref oA]) (rest := []) hC (c_L_order (k_order hJ.2.1 hgt hg ho hst) hxo (hJ.2.2.2.1.1) hoA) (vx_cwSW 4 hts gL_law_L_order rfl rfl rfl qdL_order.2 ⟨Nat.le_of_ble_eq_true rfl, Nat.le_of_ble_eq_true rfl⟩) (x_preSw hK ((hZ.at hS).narrow hsA) hN) rfl rfl hl.1 rfl (lv_room (Nat.le_of_ble_eq_true rfl)) dL_law_802 ⟨by show ce + 1 ≤ 601024; omega, by show sl + 6 ≤ 7293034; omega⟩) hS hsA (fun r1 H1 locs hfr1 hq1 hS => ?_)
  obtain ⟨er1, tn, ow, hJ1, hov⟩ := afterW hJ hq1 (fun v H2 h => h) (fun _ => ⟨rfl, rfl, rfl, rfl, rfl⟩)
  rw [er1]
  have hK3 : k1 (vS hn (xs (i + 1)) && !decide ((xs (i + 2)) < 0)) ≤ 3 := qk1_le _
  refine lv_istore (lv' := [(6, .int (nI (k1 (vS hn (xs (i + 1)) && !decide ((xs (i + 2)) < 0))))), (0, .ref sb), (1, .ref xa), (2, .ref (b 0)), (3, .ref oA), (4, .ref oD), (5, .int (nI i))]) hx hb dL_law_805 hl (by decide) rfl (fun ls hl => ?_)
  refine lv_aload_n hx hb dL_law_807 rfl (lv_at hl 3 rfl) ?_
  refine lv_aload_n hx hb dL_law_808 rfl (lv_at hl 1 rfl) ?_
  refine lv_iload hx hb dL_law_809 (lv_at hl 6 rfl) ?_
  refine lv_iconst (v := nI 1) hx hb dL_law_811 (by decide +kernel) ?_
  refine x_iaddN hx hb dL_law_812 ?_
  refine x_sldN hx hb hX hsb hbA hS (by omega) (by omega) dL_law_813 ?_
  refine lv_aload_n hx hb dL_law_814 rfl (lv_at hl 1 rfl) ?_
  refine lv_iload hx hb dL_law_815 (lv_at hl 6 rfl) ?_
  refine lv_iconst (v := nI 2) hx hb dL_law_817 (by decide +kernel) ?_
  refine x_iaddN hx hb dL_law_818 ?_
  refine x_sldN hx hb hX hsb hbA hS (by omega) (by omega) dL_law_819 ?_
  obtain ⟨⟨mi, ma, hPm, hm1, hm2, hm3, hm4⟩, ht6⟩ := hJ1.2.2.1
  have hsM : ∀ q, aM tn H1 q → aN s q := sgM hJ1.1 hJ1.2.2.2.2.2
  have hcm := c_X4_order (l := l) (A := aM tn H1) (x1 := (xs (i + 1))) (x2 := (xs (i + 2))) hPm (aM_D ht6) hm1 hm2 (by rw [hm3, hm4]; exact hg)
  rw [hm3, hm4] at hcm
  refine x_runi (va_runV (As := [.int ((xs (i + 1))), .int ((xs (i + 2)))]) (rest := []) hC hcm (cwV 2 hts gL_law_X4_order rfl rfl rfl qdX4_order ⟨Nat.le_of_ble_eq_true rfl, Nat.le_of_ble_eq_true rfl⟩) (x_preV hK (x_recv hK (hPm 0 _ rfl) rfl)) rfl rfl hl.1 rfl (lv_room (Nat.le_of_ble_eq_true rfl)) dL_law_820 ⟨by show ce + 1 + 0 ≤ 601024; omega, by show sl + 6 + 0 ≤ 7293034; omega⟩) hS hsM (fun r2 H2 locs hfr2 hq2 hS => ?_)
  obtain ⟨hv2, mi2, ma2, hPm2, hmi2, hJ2⟩ := afterM hJ1 hfr2 hq2
  refine lv_istore (lv' := [(7, .int r2), (6, .int (nI (k1 (vS hn (xs (i + 1)) && !decide ((xs (i + 2)) < 0))))), (0, .ref sb), (1, .ref xa), (2, .ref (b 0)), (3, .ref oA), (4, .ref oD), (5, .int (nI i))]) hx hb dL_law_823 hl (by decide) rfl (fun ls hl => ?_)
  refine lv_aload_n hx hb dL_law_825 rfl (lv_at hl 4 rfl) ?_
  refine x_rd (va_runV (As := []) (rest := []) hC (c_X4_thrown hPm2) (cwV 0 hts gL_law_X4_thrown rfl rfl rfl qdX4_thrown ⟨Nat.le_of_ble_eq_true rfl, Nat.le_of_ble_eq_true rfl⟩) (x_preV hK (x_recv hK (hPm2 0 _ rfl) rfl)) rfl rfl hl.1 rfl (lv_room (Nat.le_of_ble_eq_true rfl)) dL_law_826 ⟨by show ce + 1 + 0 + 0 ≤ 601024; omega, by show sl + 6 + 0 + 0 ≤ 7293034; omega⟩) ?_
  rw [hmi2]
  refine W.eq (g2 := F0 m 829 ls [.int (nI (k1 (vS hn (xs (i + 1)) && !decide ((xs (i + 2)) < 0))))]) rfl ?_
  refine lv_iload hx hb dL_law_829 (lv_at hl 1 rfl) ?_
  refine x_icmp_eq (tgt := 836) hx hb (by omega) (by omega) dL_law_831 (by decide) (fun c_1 => ?_) (fun c_1 => ?_)
  · refine lv_iload hx hb dL_law_836 (lv_at hl 1 rfl) ?_
    refine x_if_neN (tgt := 853) hx hb (by omega) dL_law_838 (by decide) (fun c_2 => ?_) (fun c_2 => ?_)
    · refine lv_goto (tgt := 1455) hx hb dL_law_853 (by decide) ?_
      refine W.widen (k := ce + 8) (n := sl + 100) (by omega) (by omega) ?_
      exact kont _ _ ls ⟨tn, _, _, _, _, _, ow, od, hJ2, ⟨hg, ho, hz⟩⟩ hS (lv_sub hl [2, 3, 4, 5, 6, 7] rfl)
    · have e8 : ow 0 = r2.toInt64 := (hov c_2).trans (congrArg Int32.toInt64 ((order_eq hn12 ho).trans (hv2 c_2).symm))
      refine lv_aload_n hx hb dL_law_841 rfl (lv_at hl 5 rfl) ?_
      refine lv_iconst (v := nI 0) hx hb dL_law_842 (by decide +kernel) ?_
      refine x_laldN hx hb hK (hJ2.2.2.2.1.1) dL_law_843 ?_
      rw [e8]
      refine lv_iload hx hb dL_law_844 (lv_at hl 0 rfl) ?_
      refine lv_i2l (v := r2.toInt64) hx hb dL_law_846 rfl ?_
      refine W.lcmp hx hb dL_law_847 ?_
      rw [lg_self]
      refine W.eq (g2 := F0 m 848 ls [.int (nI 0)]) rfl ?_
      refine x_if_eqN (tgt := 853) hx hb (by omega) dL_law_848 (by decide) (fun c_3 => ?_) (fun c_3 => ?_)
      · refine lv_goto (tgt := 1455) hx hb dL_law_853 (by decide) ?_
        refine W.widen (k := ce + 8) (n := sl + 100) (by omega) (by omega) ?_
        exact kont _ _ ls ⟨tn, _, _, _, _, _, ow, od, hJ2, ⟨hg, ho, hz⟩⟩ hS (lv_sub hl [2, 3, 4, 5, 6, 7] rfl)
      · exact absurd c_3 (Nat.lt_irrefl 0)
  · exact absurd rfl c_1
set_option maxHeartbeats 4000000 in
set_option maxRecDepth 100000 in
theorem lc_halo {p : Program} {l : Launch} {e : Env} {s : State} {m : MethodId} {below : List Frame} {meth : Method} {c : Code} {Q : State → Prop} {G : gT} {zA : Nat × Nat} {sb Ls : Nat} {xs : Nat → Int32} {xa : Nat} {b : Nat → Nat} {oA oD i ce sl : Nat} {H : Heap} {locs : List Loc} (hF : LFix p l s m c G zA sb Ls xs) (hce : ce + 8 ≤ 601024) (hsl : sl + 100 ≤ 7293034) (hi : i + 5 ≤ Ls) (hI : LI G zA.1 s.heap.size xa b oA oD H) (hS : va_S (aN s) s.heap H locs) (ls : Array Slot) (hl : lv_has ls 9 [(0, .ref sb), (1, .ref xa), (2, .ref (b 0)), (3, .ref oA), (4, .ref oD), (5, .int (nI i))]) (kont : ∀ (H : Heap) (locs : List Loc) (ls : Array Slot), LI G zA.1 s.heap.size xa b oA oD H → va_S (aN s) s.heap H locs → lv_has ls 9 [(0, .ref sb), (1, .ref xa), (2, .ref (b 0)), (3, .ref oA), (4, .ref oD), (5, .int (nI i))] → W p l e rmL_law s m [.ref sb].toArray below meth c H locs (ce + 8) (sl + 100) Q (F0 m 1455 ls [])) : W p l e rmL_law s m [.ref sb].toArray below meth c H locs ce sl Q (F0 m 856 ls []) := by
  obtain ⟨hx, hb, hml, hown, hts, hK, hZ, hN, hX, hsb, hst, hdn, hLs⟩ := hF
  have hC : CallFix p m c cL_law 9 s [.ref sb].toArray wsL_law RL := ⟨hx, hb, hml, hown, hts⟩
  have hbA : ¬ aN s sb := Nat.not_le.mpr hsb
  obtain ⟨tg, n, hn, L, T, o, ov, od, hJ, hg, ho, hz⟩ := hI
  have hn12 := hg.n
  have hh16 := hg.hn
  have hgt : ∀ q, tg q ≠ 0 → q < H.size := fun q h => (hJ.1 q h).2
  obtain ⟨hsA, hsD, hoA, hoD⟩ := hJ.sW
  obtain ⟨fx, hxo⟩ := hJ.2.1.xo
  refine lv_aload_n hx hb dL_law_856 rfl (lv_at hl 1 rfl) ?_
  refine lv_aload_n hx hb dL_law_857 rfl (lv_at hl 0 rfl) ?_
  refine lv_iload hx hb dL_law_858 (lv_at hl 5 rfl) ?_
  refine lv_iconst (v := nI 1) hx hb dL_law_860 (by decide +kernel) ?_
  refine x_iaddN hx hb dL_law_861 ?_
  refine x_sldN hx hb hX hsb hbA hS (by omega) (by omega) dL_law_862 ?_
  refine lv_aload_n hx hb dL_law_863 rfl (lv_at hl 0 rfl) ?_
  refine lv_iload hx hb dL_law_864 (lv_at hl 5 rfl) ?_
  refine lv_iconst (v := nI 2) hx hb dL_law_866 (by decide +kernel) ?_
  refine x_iaddN hx hb dL_law_867 ?_
  refine x_sldN hx hb hX hsb hbA hS (by omega) (by omega) dL_law_868 ?_
  refine lv_aload_n hx hb dL_law_869 rfl (lv_at hl 3 rfl) ?_
  refine x_runi (vx_runSW (As := [.ref xa, .int ((xs (i + 1))), .int ((xs (i + 2))), .ref oA]) (rest := []) hC (c_L_halo (k_halo hJ.2.1 hgt hg ho hst) hxo (hJ.2.2.2.1.1) hoA) (vx_cwSW 4 hts gL_law_L_halo rfl rfl rfl qdL_halo.2 ⟨Nat.le_of_ble_eq_true rfl, Nat.le_of_ble_eq_true rfl⟩) (x_preSw hK ((hZ.at hS).narrow hsA) hN) rfl rfl hl.1 rfl (lv_room (Nat.le_of_ble_eq_true rfl)) dL_law_870 ⟨by show ce + 1 ≤ 601024; omega, by show sl + 6 ≤ 7293034; omega⟩) hS hsA (fun r1 H1 locs hfr1 hq1 hS => ?_)
  obtain ⟨er1, tn, ow, hJ1, hov⟩ := afterW hJ hq1 (fun v H2 h => h) (fun _ => ⟨rfl, rfl, rfl, rfl, rfl⟩)
  rw [er1]
  have hK3 : k1 (vS hn (xs (i + 1)) && inR (nI 0) (nI 6) (xs (i + 2))) ≤ 3 := qk1_le _
  refine lv_istore (lv' := [(6, .int (nI (k1 (vS hn (xs (i + 1)) && inR (nI 0) (nI 6) (xs (i + 2)))))), (0, .ref sb), (1, .ref xa), (2, .ref (b 0)), (3, .ref oA), (4, .ref oD), (5, .int (nI i))]) hx hb dL_law_873 hl (by decide) rfl (fun ls hl => ?_)
  refine lv_aload_n hx hb dL_law_875 rfl (lv_at hl 3 rfl) ?_
  refine lv_aload_n hx hb dL_law_876 rfl (lv_at hl 1 rfl) ?_
  refine lv_iload hx hb dL_law_877 (lv_at hl 6 rfl) ?_
  refine lv_iconst (v := nI 1) hx hb dL_law_879 (by decide +kernel) ?_
  refine x_iaddN hx hb dL_law_880 ?_
  refine x_sldN hx hb hX hsb hbA hS (by omega) (by omega) dL_law_881 ?_
  refine lv_aload_n hx hb dL_law_882 rfl (lv_at hl 1 rfl) ?_
  refine lv_iload hx hb dL_law_883 (lv_at hl 6 rfl) ?_
  refine lv_iconst (v := nI 2) hx hb dL_law_885 (by decide +kernel) ?_
  refine x_iaddN hx hb dL_law_886 ?_
  refine x_sldN hx hb hX hsb hbA hS (by omega) (by omega) dL_law_887 ?_
  obtain ⟨⟨mi, ma, hPm, hm1, hm2, hm3, hm4⟩, ht6⟩ := hJ1.2.2.1
  have hsM : ∀ q, aM tn H1 q → aN s q := sgM hJ1.1 hJ1.2.2.2.2.2
  have hcm := c_X4_halo (l := l) (A := aM tn H1) (x1 := (xs (i + 1))) (x2 := (xs (i + 2))) hPm (aM_D ht6) hm1 hm2 (by rw [hm3, hm4]; exact hg) (by rw [hm3]; exact ho)
  rw [hm3, hm4] at hcm
  refine x_runi (va_runV (As := [.int ((xs (i + 1))), .int ((xs (i + 2)))]) (rest := []) hC hcm (cwV 2 hts gL_law_X4_halo rfl rfl rfl qdX4_halo ⟨Nat.le_of_ble_eq_true rfl, Nat.le_of_ble_eq_true rfl⟩) (x_preV hK (x_recv hK (hPm 0 _ rfl) rfl)) rfl rfl hl.1 rfl (lv_room (Nat.le_of_ble_eq_true rfl)) dL_law_888 ⟨by show ce + 1 + 0 ≤ 601024; omega, by show sl + 6 + 0 ≤ 7293034; omega⟩) hS hsM (fun r2 H2 locs hfr2 hq2 hS => ?_)
  obtain ⟨hv2, mi2, ma2, hPm2, hmi2, hJ2⟩ := afterM hJ1 hfr2 hq2
  refine lv_istore (lv' := [(7, .int r2), (6, .int (nI (k1 (vS hn (xs (i + 1)) && inR (nI 0) (nI 6) (xs (i + 2)))))), (0, .ref sb), (1, .ref xa), (2, .ref (b 0)), (3, .ref oA), (4, .ref oD), (5, .int (nI i))]) hx hb dL_law_891 hl (by decide) rfl (fun ls hl => ?_)
  refine lv_aload_n hx hb dL_law_893 rfl (lv_at hl 4 rfl) ?_
  refine x_rd (va_runV (As := []) (rest := []) hC (c_X4_thrown hPm2) (cwV 0 hts gL_law_X4_thrown rfl rfl rfl qdX4_thrown ⟨Nat.le_of_ble_eq_true rfl, Nat.le_of_ble_eq_true rfl⟩) (x_preV hK (x_recv hK (hPm2 0 _ rfl) rfl)) rfl rfl hl.1 rfl (lv_room (Nat.le_of_ble_eq_true rfl)) dL_law_894 ⟨by show ce + 1 + 0 + 0 ≤ 601024; omega, by show sl + 6 + 0 + 0 ≤ 7293034; omega⟩) ?_
  rw [hmi2]
  refine W.eq (g2 := F0 m 897 ls [.int (nI (k1 (vS hn (xs (i + 1)) && inR (nI 0) (nI 6) (xs (i + 2)))))]) rfl ?_
  refine lv_iload hx hb dL_law_897 (lv_at hl 1 rfl) ?_
  refine x_icmp_eq (tgt := 904) hx hb (by omega) (by omega) dL_law_899 (by decide) (fun c_1 => ?_) (fun c_1 => ?_)
  · refine lv_iload hx hb dL_law_904 (lv_at hl 1 rfl) ?_
    refine x_if_neN (tgt := 921) hx hb (by omega) dL_law_906 (by decide) (fun c_2 => ?_) (fun c_2 => ?_)
    · refine lv_goto (tgt := 1455) hx hb dL_law_921 (by decide) ?_
      refine W.widen (k := ce + 8) (n := sl + 100) (by omega) (by omega) ?_
      exact kont _ _ ls ⟨tn, _, _, _, _, _, ow, od, hJ2, ⟨hg, ho, hz⟩⟩ hS (lv_sub hl [2, 3, 4, 5, 6, 7] rfl)
    · have e8 : ow 0 = r2.toInt64 := (hov c_2).trans (congrArg Int32.toInt64 ((rfl).trans (hv2 c_2).symm))
      refine lv_aload_n hx hb dL_law_909 rfl (lv_at hl 5 rfl) ?_
      refine lv_iconst (v := nI 0) hx hb dL_law_910 (by decide +kernel) ?_
      refine x_laldN hx hb hK (hJ2.2.2.2.1.1) dL_law_911 ?_
      rw [e8]
      refine lv_iload hx hb dL_law_912 (lv_at hl 0 rfl) ?_
      refine lv_i2l (v := r2.toInt64) hx hb dL_law_914 rfl ?_
      refine W.lcmp hx hb dL_law_915 ?_
      rw [lg_self]
      refine W.eq (g2 := F0 m 916 ls [.int (nI 0)]) rfl ?_
      refine x_if_eqN (tgt := 921) hx hb (by omega) dL_law_916 (by decide) (fun c_3 => ?_) (fun c_3 => ?_)
      · refine lv_goto (tgt := 1455) hx hb dL_law_921 (by decide) ?_
        refine W.widen (k := ce + 8) (n := sl + 100) (by omega) (by omega) ?_
        exact kont _ _ ls ⟨tn, _, _, _, _, _, ow, od, hJ2, ⟨hg, ho, hz⟩⟩ hS (lv_sub hl [2, 3, 4, 5, 6, 7] rfl)
      · exact absurd c_3 (Nat.lt_irrefl 0)
  · exact absurd rfl c_1
set_option maxHeartbeats 4000000 in
set_option maxRecDepth 100000 in
theorem lc_guess {p : Program} {l : Launch} {e : Env} {s : State} {m : MethodId} {below : List Frame} {meth : Method} {c : Code} {Q : State → Prop} {G : gT} {zA : Nat × Nat} {sb Ls : Nat} {xs : Nat → Int32} {xa : Nat} {b : Nat → Nat} {oA oD i ce sl : Nat} {H : Heap} {locs : List Loc} (hF : LFix p l s m c G zA sb Ls xs) (hce : ce + 8 ≤ 601024) (hsl : sl + 100 ≤ 7293034) (hi : i + 5 ≤ Ls) (hI : LI G zA.1 s.heap.size xa b oA oD H) (hS : va_S (aN s) s.heap H locs) (ls : Array Slot) (hl : lv_has ls 9 [(0, .ref sb), (1, .ref xa), (2, .ref (b 0)), (3, .ref oA), (4, .ref oD), (5, .int (nI i))]) (kont : ∀ (H : Heap) (locs : List Loc) (ls : Array Slot), LI G zA.1 s.heap.size xa b oA oD H → va_S (aN s) s.heap H locs → lv_has ls 9 [(0, .ref sb), (1, .ref xa), (2, .ref (b 0)), (3, .ref oA), (4, .ref oD), (5, .int (nI i))] → W p l e rmL_law s m [.ref sb].toArray below meth c H locs (ce + 8) (sl + 100) Q (F0 m 1455 ls [])) : W p l e rmL_law s m [.ref sb].toArray below meth c H locs ce sl Q (F0 m 924 ls []) := by
  obtain ⟨hx, hb, hml, hown, hts, hK, hZ, hN, hX, hsb, hst, hdn, hLs⟩ := hF
  have hC : CallFix p m c cL_law 9 s [.ref sb].toArray wsL_law RL := ⟨hx, hb, hml, hown, hts⟩
  have hbA : ¬ aN s sb := Nat.not_le.mpr hsb
  obtain ⟨tg, n, hn, L, T, o, ov, od, hJ, hg, ho, hz⟩ := hI
  have hn12 := hg.n
  have hh16 := hg.hn
  have hgt : ∀ q, tg q ≠ 0 → q < H.size := fun q h => (hJ.1 q h).2
  obtain ⟨hsA, hsD, hoA, hoD⟩ := hJ.sW
  obtain ⟨fx, hxo⟩ := hJ.2.1.xo
  refine lv_aload_n hx hb dL_law_924 rfl (lv_at hl 1 rfl) ?_
  refine lv_aload_n hx hb dL_law_925 rfl (lv_at hl 0 rfl) ?_
  refine lv_iload hx hb dL_law_926 (lv_at hl 5 rfl) ?_
  refine lv_iconst (v := nI 1) hx hb dL_law_928 (by decide +kernel) ?_
  refine x_iaddN hx hb dL_law_929 ?_
  refine x_sldN hx hb hX hsb hbA hS (by omega) (by omega) dL_law_930 ?_
  refine lv_aload_n hx hb dL_law_931 rfl (lv_at hl 0 rfl) ?_
  refine lv_iload hx hb dL_law_932 (lv_at hl 5 rfl) ?_
  refine lv_iconst (v := nI 2) hx hb dL_law_934 (by decide +kernel) ?_
  refine x_iaddN hx hb dL_law_935 ?_
  refine x_sldN hx hb hX hsb hbA hS (by omega) (by omega) dL_law_936 ?_
  refine lv_aload_n hx hb dL_law_937 rfl (lv_at hl 3 rfl) ?_
  refine x_runi (vx_runSW (As := [.ref xa, .int ((xs (i + 1))), .int ((xs (i + 2))), .ref oA]) (rest := []) hC (c_L_guess (k_guess hJ.2.1 hgt hg ho hst) hxo (hJ.2.2.2.1.1) hoA) (vx_cwSW 4 hts gL_law_L_guess rfl rfl rfl qdL_guess.2 ⟨Nat.le_of_ble_eq_true rfl, Nat.le_of_ble_eq_true rfl⟩) (x_preSw hK ((hZ.at hS).narrow hsA) hN) rfl rfl hl.1 rfl (lv_room (Nat.le_of_ble_eq_true rfl)) dL_law_938 ⟨by show ce + 1 ≤ 601024; omega, by show sl + 6 ≤ 7293034; omega⟩) hS hsA (fun r1 H1 locs hfr1 hq1 hS => ?_)
  obtain ⟨er1, tn, ow, hJ1, hov⟩ := afterW hJ hq1 (fun v H2 h => h) (fun _ => ⟨rfl, rfl, rfl, rfl, rfl⟩)
  rw [er1]
  have hK3 : k1 (vS hn (xs (i + 1)) && vS n (xs (i + 2))) ≤ 3 := qk1_le _
  refine lv_istore (lv' := [(6, .int (nI (k1 (vS hn (xs (i + 1)) && vS n (xs (i + 2)))))), (0, .ref sb), (1, .ref xa), (2, .ref (b 0)), (3, .ref oA), (4, .ref oD), (5, .int (nI i))]) hx hb dL_law_941 hl (by decide) rfl (fun ls hl => ?_)
  refine lv_aload_n hx hb dL_law_943 rfl (lv_at hl 3 rfl) ?_
  refine lv_aload_n hx hb dL_law_944 rfl (lv_at hl 1 rfl) ?_
  refine lv_iload hx hb dL_law_945 (lv_at hl 6 rfl) ?_
  refine lv_iconst (v := nI 1) hx hb dL_law_947 (by decide +kernel) ?_
  refine x_iaddN hx hb dL_law_948 ?_
  refine x_sldN hx hb hX hsb hbA hS (by omega) (by omega) dL_law_949 ?_
  refine lv_aload_n hx hb dL_law_950 rfl (lv_at hl 1 rfl) ?_
  refine lv_iload hx hb dL_law_951 (lv_at hl 6 rfl) ?_
  refine lv_iconst (v := nI 2) hx hb dL_law_953 (by decide +kernel) ?_
  refine x_iaddN hx hb dL_law_954 ?_
  refine x_sldN hx hb hX hsb hbA hS (by omega) (by omega) dL_law_955 ?_
  obtain ⟨⟨mi, ma, hPm, hm1, hm2, hm3, hm4⟩, ht6⟩ := hJ1.2.2.1
  have hsM : ∀ q, aM tn H1 q → aN s q := sgM hJ1.1 hJ1.2.2.2.2.2
  have hcm := c_X4_guess (l := l) (A := aM tn H1) (x1 := (xs (i + 1))) (x2 := (xs (i + 2))) hPm (aM_D ht6) hm1 hm2 (by rw [hm3, hm4]; exact hg) (by rw [hm3]; exact ho)
  rw [hm3, hm4] at hcm
  refine x_runi (va_runV (As := [.int ((xs (i + 1))), .int ((xs (i + 2)))]) (rest := []) hC hcm (cwV 2 hts gL_law_X4_guess rfl rfl rfl qdX4_guess ⟨Nat.le_of_ble_eq_true rfl, Nat.le_of_ble_eq_true rfl⟩) (x_preV hK (x_recv hK (hPm 0 _ rfl) rfl)) rfl rfl hl.1 rfl (lv_room (Nat.le_of_ble_eq_true rfl)) dL_law_956 ⟨by show ce + 1 + 0 ≤ 601024; omega, by show sl + 6 + 0 ≤ 7293034; omega⟩) hS hsM (fun r2 H2 locs hfr2 hq2 hS => ?_)
  obtain ⟨hv2, mi2, ma2, hPm2, hmi2, hJ2⟩ := afterM hJ1 hfr2 hq2
  refine lv_istore (lv' := [(7, .int r2), (6, .int (nI (k1 (vS hn (xs (i + 1)) && vS n (xs (i + 2)))))), (0, .ref sb), (1, .ref xa), (2, .ref (b 0)), (3, .ref oA), (4, .ref oD), (5, .int (nI i))]) hx hb dL_law_959 hl (by decide) rfl (fun ls hl => ?_)
  refine lv_aload_n hx hb dL_law_961 rfl (lv_at hl 4 rfl) ?_
  refine x_rd (va_runV (As := []) (rest := []) hC (c_X4_thrown hPm2) (cwV 0 hts gL_law_X4_thrown rfl rfl rfl qdX4_thrown ⟨Nat.le_of_ble_eq_true rfl, Nat.le_of_ble_eq_true rfl⟩) (x_preV hK (x_recv hK (hPm2 0 _ rfl) rfl)) rfl rfl hl.1 rfl (lv_room (Nat.le_of_ble_eq_true rfl)) dL_law_962 ⟨by show ce + 1 + 0 + 0 ≤ 601024; omega, by show sl + 6 + 0 + 0 ≤ 7293034; omega⟩) ?_
  rw [hmi2]
  refine W.eq (g2 := F0 m 965 ls [.int (nI (k1 (vS hn (xs (i + 1)) && vS n (xs (i + 2)))))]) rfl ?_
  refine lv_iload hx hb dL_law_965 (lv_at hl 1 rfl) ?_
  refine x_icmp_eq (tgt := 972) hx hb (by omega) (by omega) dL_law_967 (by decide) (fun c_1 => ?_) (fun c_1 => ?_)
  · refine lv_iload hx hb dL_law_972 (lv_at hl 1 rfl) ?_
    refine x_if_neN (tgt := 989) hx hb (by omega) dL_law_974 (by decide) (fun c_2 => ?_) (fun c_2 => ?_)
    · refine lv_goto (tgt := 1455) hx hb dL_law_989 (by decide) ?_
      refine W.widen (k := ce + 8) (n := sl + 100) (by omega) (by omega) ?_
      exact kont _ _ ls ⟨tn, _, _, _, _, _, ow, od, hJ2, ⟨hg, ho, hz⟩⟩ hS (lv_sub hl [2, 3, 4, 5, 6, 7] rfl)
    · have e8 : ow 0 = r2.toInt64 := (hov c_2).trans (congrArg Int32.toInt64 ((rfl).trans (hv2 c_2).symm))
      refine lv_aload_n hx hb dL_law_977 rfl (lv_at hl 5 rfl) ?_
      refine lv_iconst (v := nI 0) hx hb dL_law_978 (by decide +kernel) ?_
      refine x_laldN hx hb hK (hJ2.2.2.2.1.1) dL_law_979 ?_
      rw [e8]
      refine lv_iload hx hb dL_law_980 (lv_at hl 0 rfl) ?_
      refine lv_i2l (v := r2.toInt64) hx hb dL_law_982 rfl ?_
      refine W.lcmp hx hb dL_law_983 ?_
      rw [lg_self]
      refine W.eq (g2 := F0 m 984 ls [.int (nI 0)]) rfl ?_
      refine x_if_eqN (tgt := 989) hx hb (by omega) dL_law_984 (by decide) (fun c_3 => ?_) (fun c_3 => ?_)
      · refine lv_goto (tgt := 1455) hx hb dL_law_989 (by decide) ?_
        refine W.widen (k := ce + 8) (n := sl + 100) (by omega) (by omega) ?_
        exact kont _ _ ls ⟨tn, _, _, _, _, _, ow, od, hJ2, ⟨hg, ho, hz⟩⟩ hS (lv_sub hl [2, 3, 4, 5, 6, 7] rfl)
      · exact absurd c_3 (Nat.lt_irrefl 0)
  · exact absurd rfl c_1
set_option maxHeartbeats 4000000 in
set_option maxRecDepth 100000 in
theorem lc_blame {p : Program} {l : Launch} {e : Env} {s : State} {m : MethodId} {below : List Frame} {meth : Method} {c : Code} {Q : State → Prop} {G : gT} {zA : Nat × Nat} {sb Ls : Nat} {xs : Nat → Int32} {xa : Nat} {b : Nat → Nat} {oA oD i ce sl : Nat} {H : Heap} {locs : List Loc} (hF : LFix p l s m c G zA sb Ls xs) (hce : ce + 8 ≤ 601024) (hsl : sl + 100 ≤ 7293034) (hi : i + 5 ≤ Ls) (hI : LI G zA.1 s.heap.size xa b oA oD H) (hS : va_S (aN s) s.heap H locs) (ls : Array Slot) (hl : lv_has ls 9 [(0, .ref sb), (1, .ref xa), (2, .ref (b 0)), (3, .ref oA), (4, .ref oD), (5, .int (nI i))]) (kont : ∀ (H : Heap) (locs : List Loc) (ls : Array Slot), LI G zA.1 s.heap.size xa b oA oD H → va_S (aN s) s.heap H locs → lv_has ls 9 [(0, .ref sb), (1, .ref xa), (2, .ref (b 0)), (3, .ref oA), (4, .ref oD), (5, .int (nI i))] → W p l e rmL_law s m [.ref sb].toArray below meth c H locs (ce + 8) (sl + 100) Q (F0 m 1455 ls [])) : W p l e rmL_law s m [.ref sb].toArray below meth c H locs ce sl Q (F0 m 992 ls []) := by
  obtain ⟨hx, hb, hml, hown, hts, hK, hZ, hN, hX, hsb, hst, hdn, hLs⟩ := hF
  have hC : CallFix p m c cL_law 9 s [.ref sb].toArray wsL_law RL := ⟨hx, hb, hml, hown, hts⟩
  have hbA : ¬ aN s sb := Nat.not_le.mpr hsb
  obtain ⟨tg, n, hn, L, T, o, ov, od, hJ, hg, ho, hz⟩ := hI
  have hn12 := hg.n
  have hh16 := hg.hn
  have hgt : ∀ q, tg q ≠ 0 → q < H.size := fun q h => (hJ.1 q h).2
  obtain ⟨hsA, hsD, hoA, hoD⟩ := hJ.sW
  obtain ⟨fx, hxo⟩ := hJ.2.1.xo
  refine lv_aload_n hx hb dL_law_992 rfl (lv_at hl 1 rfl) ?_
  refine lv_aload_n hx hb dL_law_993 rfl (lv_at hl 0 rfl) ?_
  refine lv_iload hx hb dL_law_994 (lv_at hl 5 rfl) ?_
  refine lv_iconst (v := nI 1) hx hb dL_law_996 (by decide +kernel) ?_
  refine x_iaddN hx hb dL_law_997 ?_
  refine x_sldN hx hb hX hsb hbA hS (by omega) (by omega) dL_law_998 ?_
  refine lv_aload_n hx hb dL_law_999 rfl (lv_at hl 3 rfl) ?_
  refine x_runi (vx_runSW (As := [.ref xa, .int ((xs (i + 1))), .ref oA]) (rest := []) hC (c_L_blame (k_blame hJ.2.1 hgt hg ho hst) hxo (hJ.2.2.2.1.1) hoA) (vx_cwSW 3 hts gL_law_L_blame rfl rfl rfl qdL_blame.2 ⟨Nat.le_of_ble_eq_true rfl, Nat.le_of_ble_eq_true rfl⟩) (x_preSw hK ((hZ.at hS).narrow hsA) hN) rfl rfl hl.1 rfl (lv_room (Nat.le_of_ble_eq_true rfl)) dL_law_1000 ⟨by show ce + 1 ≤ 601024; omega, by show sl + 6 ≤ 7293034; omega⟩) hS hsA (fun r1 H1 locs hfr1 hq1 hS => ?_)
  obtain ⟨er1, tn, ow, hJ1, hov⟩ := afterW hJ hq1 (fun v H2 h => h) (fun _ => ⟨rfl, rfl, rfl, rfl, rfl⟩)
  rw [er1]
  have hK3 : k1 (vS n (xs (i + 1))) ≤ 3 := qk1_le _
  refine lv_istore (lv' := [(6, .int (nI (k1 (vS n (xs (i + 1)))))), (0, .ref sb), (1, .ref xa), (2, .ref (b 0)), (3, .ref oA), (4, .ref oD), (5, .int (nI i))]) hx hb dL_law_1003 hl (by decide) rfl (fun ls hl => ?_)
  refine lv_aload_n hx hb dL_law_1005 rfl (lv_at hl 3 rfl) ?_
  refine lv_aload_n hx hb dL_law_1006 rfl (lv_at hl 1 rfl) ?_
  refine lv_iload hx hb dL_law_1007 (lv_at hl 6 rfl) ?_
  refine lv_iconst (v := nI 1) hx hb dL_law_1009 (by decide +kernel) ?_
  refine x_iaddN hx hb dL_law_1010 ?_
  refine x_sldN hx hb hX hsb hbA hS (by omega) (by omega) dL_law_1011 ?_
  obtain ⟨⟨mi, ma, hPm, hm1, hm2, hm3, hm4⟩, ht6⟩ := hJ1.2.2.1
  have hsM : ∀ q, aM tn H1 q → aN s q := sgM hJ1.1 hJ1.2.2.2.2.2
  have hcm := c_X4_blame (l := l) (A := aM tn H1) (x1 := (xs (i + 1))) hPm (aM_D ht6) hm1 hm2 (by rw [hm3, hm4]; exact hg) (by rw [hm3]; exact ho)
  rw [hm3, hm4] at hcm
  refine x_runi (va_runV (As := [.int ((xs (i + 1)))]) (rest := []) hC hcm (cwV 1 hts gL_law_X4_blame rfl rfl rfl qdX4_blame ⟨Nat.le_of_ble_eq_true rfl, Nat.le_of_ble_eq_true rfl⟩) (x_preV hK (x_recv hK (hPm 0 _ rfl) rfl)) rfl rfl hl.1 rfl (lv_room (Nat.le_of_ble_eq_true rfl)) dL_law_1012 ⟨by show ce + 1 + 0 ≤ 601024; omega, by show sl + 6 + 0 ≤ 7293034; omega⟩) hS hsM (fun r2 H2 locs hfr2 hq2 hS => ?_)
  obtain ⟨hv2, mi2, ma2, hPm2, hmi2, hJ2⟩ := afterM hJ1 hfr2 hq2
  refine lv_istore (lv' := [(7, .int r2), (6, .int (nI (k1 (vS n (xs (i + 1)))))), (0, .ref sb), (1, .ref xa), (2, .ref (b 0)), (3, .ref oA), (4, .ref oD), (5, .int (nI i))]) hx hb dL_law_1015 hl (by decide) rfl (fun ls hl => ?_)
  refine lv_aload_n hx hb dL_law_1017 rfl (lv_at hl 4 rfl) ?_
  refine x_rd (va_runV (As := []) (rest := []) hC (c_X4_thrown hPm2) (cwV 0 hts gL_law_X4_thrown rfl rfl rfl qdX4_thrown ⟨Nat.le_of_ble_eq_true rfl, Nat.le_of_ble_eq_true rfl⟩) (x_preV hK (x_recv hK (hPm2 0 _ rfl) rfl)) rfl rfl hl.1 rfl (lv_room (Nat.le_of_ble_eq_true rfl)) dL_law_1018 ⟨by show ce + 1 + 0 + 0 ≤ 601024; omega, by show sl + 6 + 0 + 0 ≤ 7293034; omega⟩) ?_
  rw [hmi2]
  refine W.eq (g2 := F0 m 1021 ls [.int (nI (k1 (vS n (xs (i + 1)))))]) rfl ?_
  refine lv_iload hx hb dL_law_1021 (lv_at hl 1 rfl) ?_
  refine x_icmp_eq (tgt := 1028) hx hb (by omega) (by omega) dL_law_1023 (by decide) (fun c_1 => ?_) (fun c_1 => ?_)
  · refine lv_iload hx hb dL_law_1028 (lv_at hl 1 rfl) ?_
    refine x_if_neN (tgt := 1045) hx hb (by omega) dL_law_1030 (by decide) (fun c_2 => ?_) (fun c_2 => ?_)
    · refine lv_goto (tgt := 1455) hx hb dL_law_1045 (by decide) ?_
      refine W.widen (k := ce + 8) (n := sl + 100) (by omega) (by omega) ?_
      exact kont _ _ ls ⟨tn, _, _, _, _, _, ow, od, hJ2, ⟨hg, ho, hz⟩⟩ hS (lv_sub hl [2, 3, 4, 5, 6, 7] rfl)
    · have e8 : ow 0 = r2.toInt64 := (hov c_2).trans (congrArg Int32.toInt64 ((rfl).trans (hv2 c_2).symm))
      refine lv_aload_n hx hb dL_law_1033 rfl (lv_at hl 5 rfl) ?_
      refine lv_iconst (v := nI 0) hx hb dL_law_1034 (by decide +kernel) ?_
      refine x_laldN hx hb hK (hJ2.2.2.2.1.1) dL_law_1035 ?_
      rw [e8]
      refine lv_iload hx hb dL_law_1036 (lv_at hl 0 rfl) ?_
      refine lv_i2l (v := r2.toInt64) hx hb dL_law_1038 rfl ?_
      refine W.lcmp hx hb dL_law_1039 ?_
      rw [lg_self]
      refine W.eq (g2 := F0 m 1040 ls [.int (nI 0)]) rfl ?_
      refine x_if_eqN (tgt := 1045) hx hb (by omega) dL_law_1040 (by decide) (fun c_3 => ?_) (fun c_3 => ?_)
      · refine lv_goto (tgt := 1455) hx hb dL_law_1045 (by decide) ?_
        refine W.widen (k := ce + 8) (n := sl + 100) (by omega) (by omega) ?_
        exact kont _ _ ls ⟨tn, _, _, _, _, _, ow, od, hJ2, ⟨hg, ho, hz⟩⟩ hS (lv_sub hl [2, 3, 4, 5, 6, 7] rfl)
      · exact absurd c_3 (Nat.lt_irrefl 0)
  · exact absurd rfl c_1
set_option maxHeartbeats 4000000 in
set_option maxRecDepth 100000 in
theorem lc_advise {p : Program} {l : Launch} {e : Env} {s : State} {m : MethodId} {below : List Frame} {meth : Method} {c : Code} {Q : State → Prop} {G : gT} {zA : Nat × Nat} {sb Ls : Nat} {xs : Nat → Int32} {xa : Nat} {b : Nat → Nat} {oA oD i ce sl : Nat} {H : Heap} {locs : List Loc} (hF : LFix p l s m c G zA sb Ls xs) (hce : ce + 8 ≤ 601024) (hsl : sl + 100 ≤ 7293034) (hi : i + 5 ≤ Ls) (hI : LI G zA.1 s.heap.size xa b oA oD H) (hS : va_S (aN s) s.heap H locs) (ls : Array Slot) (hl : lv_has ls 9 [(0, .ref sb), (1, .ref xa), (2, .ref (b 0)), (3, .ref oA), (4, .ref oD), (5, .int (nI i))]) (kont : ∀ (H : Heap) (locs : List Loc) (ls : Array Slot), LI G zA.1 s.heap.size xa b oA oD H → va_S (aN s) s.heap H locs → lv_has ls 9 [(0, .ref sb), (1, .ref xa), (2, .ref (b 0)), (3, .ref oA), (4, .ref oD), (5, .int (nI i))] → W p l e rmL_law s m [.ref sb].toArray below meth c H locs (ce + 8) (sl + 100) Q (F0 m 1455 ls [])) : W p l e rmL_law s m [.ref sb].toArray below meth c H locs ce sl Q (F0 m 1048 ls []) := by
  obtain ⟨hx, hb, hml, hown, hts, hK, hZ, hN, hX, hsb, hst, hdn, hLs⟩ := hF
  have hC : CallFix p m c cL_law 9 s [.ref sb].toArray wsL_law RL := ⟨hx, hb, hml, hown, hts⟩
  have hbA : ¬ aN s sb := Nat.not_le.mpr hsb
  obtain ⟨tg, n, hn, L, T, o, ov, od, hJ, hg, ho, hz⟩ := hI
  have hn12 := hg.n
  have hh16 := hg.hn
  have hgt : ∀ q, tg q ≠ 0 → q < H.size := fun q h => (hJ.1 q h).2
  obtain ⟨hsA, hsD, hoA, hoD⟩ := hJ.sW
  obtain ⟨fx, hxo⟩ := hJ.2.1.xo
  refine lv_aload_n hx hb dL_law_1048 rfl (lv_at hl 1 rfl) ?_
  refine lv_aload_n hx hb dL_law_1049 rfl (lv_at hl 0 rfl) ?_
  refine lv_iload hx hb dL_law_1050 (lv_at hl 5 rfl) ?_
  refine lv_iconst (v := nI 1) hx hb dL_law_1052 (by decide +kernel) ?_
  refine x_iaddN hx hb dL_law_1053 ?_
  refine x_sldN hx hb hX hsb hbA hS (by omega) (by omega) dL_law_1054 ?_
  refine lv_aload_n hx hb dL_law_1055 rfl (lv_at hl 3 rfl) ?_
  refine x_runi (vx_runSW (As := [.ref xa, .int ((xs (i + 1))), .ref oA]) (rest := []) hC (c_L_advise (k_advise hJ.2.1 hgt hg ho hst) hxo (hJ.2.2.2.1.1) hoA) (vx_cwSW 3 hts gL_law_L_advise rfl rfl rfl qdL_advise.2 ⟨Nat.le_of_ble_eq_true rfl, Nat.le_of_ble_eq_true rfl⟩) (x_preSw hK ((hZ.at hS).narrow hsA) hN) rfl rfl hl.1 rfl (lv_room (Nat.le_of_ble_eq_true rfl)) dL_law_1056 ⟨by show ce + 1 ≤ 601024; omega, by show sl + 6 ≤ 7293034; omega⟩) hS hsA (fun r1 H1 locs hfr1 hq1 hS => ?_)
  obtain ⟨er1, tn, ow, hJ1, hov⟩ := afterW hJ hq1 (fun v H2 h => h) (fun _ => ⟨rfl, rfl, rfl, rfl, rfl⟩)
  rw [er1]
  have hK3 : k1 (vS n (xs (i + 1))) ≤ 3 := qk1_le _
  refine lv_istore (lv' := [(6, .int (nI (k1 (vS n (xs (i + 1)))))), (0, .ref sb), (1, .ref xa), (2, .ref (b 0)), (3, .ref oA), (4, .ref oD), (5, .int (nI i))]) hx hb dL_law_1059 hl (by decide) rfl (fun ls hl => ?_)
  refine lv_aload_n hx hb dL_law_1061 rfl (lv_at hl 3 rfl) ?_
  refine lv_aload_n hx hb dL_law_1062 rfl (lv_at hl 1 rfl) ?_
  refine lv_iload hx hb dL_law_1063 (lv_at hl 6 rfl) ?_
  refine lv_iconst (v := nI 1) hx hb dL_law_1065 (by decide +kernel) ?_
  refine x_iaddN hx hb dL_law_1066 ?_
  refine x_sldN hx hb hX hsb hbA hS (by omega) (by omega) dL_law_1067 ?_
  obtain ⟨⟨mi, ma, hPm, hm1, hm2, hm3, hm4⟩, ht6⟩ := hJ1.2.2.1
  have hsM : ∀ q, aM tn H1 q → aN s q := sgM hJ1.1 hJ1.2.2.2.2.2
  have hcm := c_X4_advise (l := l) (A := aM tn H1) (x1 := (xs (i + 1))) hPm (aM_D ht6) hm1 hm2 (by rw [hm3, hm4]; exact hg) (by rw [hm3]; exact ho) (fun q h9 => Or.inr h9)
  rw [hm3, hm4] at hcm
  refine x_runi (va_runV (As := [.int ((xs (i + 1)))]) (rest := []) hC hcm (cwV 1 hts gL_law_X4_advise rfl rfl rfl qdX4_advise ⟨Nat.le_of_ble_eq_true rfl, Nat.le_of_ble_eq_true rfl⟩) (x_preV hK (x_recv hK (hPm 0 _ rfl) rfl)) rfl rfl hl.1 rfl (lv_room (Nat.le_of_ble_eq_true rfl)) dL_law_1068 ⟨by show ce + 1 + 1 ≤ 601024; omega, by show sl + 6 + 16 ≤ 7293034; omega⟩) hS hsM (fun r2 H2 locs hfr2 hq2 hS => ?_)
  obtain ⟨hv2, mi2, ma2, hPm2, hmi2, hJ2⟩ := afterM hJ1 hfr2 hq2
  refine lv_istore (lv' := [(7, .int r2), (6, .int (nI (k1 (vS n (xs (i + 1)))))), (0, .ref sb), (1, .ref xa), (2, .ref (b 0)), (3, .ref oA), (4, .ref oD), (5, .int (nI i))]) hx hb dL_law_1071 hl (by decide) rfl (fun ls hl => ?_)
  refine lv_aload_n hx hb dL_law_1073 rfl (lv_at hl 4 rfl) ?_
  refine x_rd (va_runV (As := []) (rest := []) hC (c_X4_thrown hPm2) (cwV 0 hts gL_law_X4_thrown rfl rfl rfl qdX4_thrown ⟨Nat.le_of_ble_eq_true rfl, Nat.le_of_ble_eq_true rfl⟩) (x_preV hK (x_recv hK (hPm2 0 _ rfl) rfl)) rfl rfl hl.1 rfl (lv_room (Nat.le_of_ble_eq_true rfl)) dL_law_1074 ⟨by show ce + 1 + 1 + 0 ≤ 601024; omega, by show sl + 6 + 16 + 0 ≤ 7293034; omega⟩) ?_
  rw [hmi2]
  refine W.eq (g2 := F0 m 1077 ls [.int (nI (k1 (vS n (xs (i + 1)))))]) rfl ?_
  refine lv_iload hx hb dL_law_1077 (lv_at hl 1 rfl) ?_
  refine x_icmp_eq (tgt := 1084) hx hb (by omega) (by omega) dL_law_1079 (by decide) (fun c_1 => ?_) (fun c_1 => ?_)
  · refine lv_iload hx hb dL_law_1084 (lv_at hl 1 rfl) ?_
    refine x_if_neN (tgt := 1101) hx hb (by omega) dL_law_1086 (by decide) (fun c_2 => ?_) (fun c_2 => ?_)
    · refine lv_goto (tgt := 1455) hx hb dL_law_1101 (by decide) ?_
      refine W.widen (k := ce + 8) (n := sl + 100) (by omega) (by omega) ?_
      exact kont _ _ ls ⟨tn, _, _, _, _, _, ow, od, hJ2, ⟨hg, ho, hz⟩⟩ hS (lv_sub hl [2, 3, 4, 5, 6, 7] rfl)
    · have e8 : ow 0 = r2.toInt64 := (hov c_2).trans (congrArg Int32.toInt64 ((rfl).trans (hv2 c_2).symm))
      refine lv_aload_n hx hb dL_law_1089 rfl (lv_at hl 5 rfl) ?_
      refine lv_iconst (v := nI 0) hx hb dL_law_1090 (by decide +kernel) ?_
      refine x_laldN hx hb hK (hJ2.2.2.2.1.1) dL_law_1091 ?_
      rw [e8]
      refine lv_iload hx hb dL_law_1092 (lv_at hl 0 rfl) ?_
      refine lv_i2l (v := r2.toInt64) hx hb dL_law_1094 rfl ?_
      refine W.lcmp hx hb dL_law_1095 ?_
      rw [lg_self]
      refine W.eq (g2 := F0 m 1096 ls [.int (nI 0)]) rfl ?_
      refine x_if_eqN (tgt := 1101) hx hb (by omega) dL_law_1096 (by decide) (fun c_3 => ?_) (fun c_3 => ?_)
      · refine lv_goto (tgt := 1455) hx hb dL_law_1101 (by decide) ?_
        refine W.widen (k := ce + 8) (n := sl + 100) (by omega) (by omega) ?_
        exact kont _ _ ls ⟨tn, _, _, _, _, _, ow, od, hJ2, ⟨hg, ho, hz⟩⟩ hS (lv_sub hl [2, 3, 4, 5, 6, 7] rfl)
      · exact absurd c_3 (Nat.lt_irrefl 0)
  · exact absurd rfl c_1
set_option maxHeartbeats 4000000 in
set_option maxRecDepth 100000 in
theorem lc_wire {p : Program} {l : Launch} {e : Env} {s : State} {m : MethodId} {below : List Frame} {meth : Method} {c : Code} {Q : State → Prop} {G : gT} {zA : Nat × Nat} {sb Ls : Nat} {xs : Nat → Int32} {xa : Nat} {b : Nat → Nat} {oA oD i ce sl : Nat} {H : Heap} {locs : List Loc} (hF : LFix p l s m c G zA sb Ls xs) (hce : ce + 8 ≤ 601024) (hsl : sl + 100 ≤ 7293034) (hi : i + 5 ≤ Ls) (hI : LI G zA.1 s.heap.size xa b oA oD H) (hS : va_S (aN s) s.heap H locs) (ls : Array Slot) (hl : lv_has ls 9 [(0, .ref sb), (1, .ref xa), (2, .ref (b 0)), (3, .ref oA), (4, .ref oD), (5, .int (nI i))]) (kont : ∀ (H : Heap) (locs : List Loc) (ls : Array Slot), LI G zA.1 s.heap.size xa b oA oD H → va_S (aN s) s.heap H locs → lv_has ls 9 [(0, .ref sb), (1, .ref xa), (2, .ref (b 0)), (3, .ref oA), (4, .ref oD), (5, .int (nI i))] → W p l e rmL_law s m [.ref sb].toArray below meth c H locs (ce + 8) (sl + 100) Q (F0 m 1455 ls [])) : W p l e rmL_law s m [.ref sb].toArray below meth c H locs ce sl Q (F0 m 1104 ls []) := by
  obtain ⟨hx, hb, hml, hown, hts, hK, hZ, hN, hX, hsb, hst, hdn, hLs⟩ := hF
  have hC : CallFix p m c cL_law 9 s [.ref sb].toArray wsL_law RL := ⟨hx, hb, hml, hown, hts⟩
  have hbA : ¬ aN s sb := Nat.not_le.mpr hsb
  obtain ⟨tg, n, hn, L, T, o, ov, od, hJ, hg, ho, hz⟩ := hI
  have hn12 := hg.n
  have hh16 := hg.hn
  have hgt : ∀ q, tg q ≠ 0 → q < H.size := fun q h => (hJ.1 q h).2
  obtain ⟨hsA, hsD, hoA, hoD⟩ := hJ.sW
  obtain ⟨fx, hxo⟩ := hJ.2.1.xo
  refine lv_aload_n hx hb dL_law_1104 rfl (lv_at hl 1 rfl) ?_
  refine lv_aload_n hx hb dL_law_1105 rfl (lv_at hl 0 rfl) ?_
  refine lv_iload hx hb dL_law_1106 (lv_at hl 5 rfl) ?_
  refine lv_iconst (v := nI 1) hx hb dL_law_1108 (by decide +kernel) ?_
  refine x_iaddN hx hb dL_law_1109 ?_
  refine x_sldN hx hb hX hsb hbA hS (by omega) (by omega) dL_law_1110 ?_
  refine lv_aload_n hx hb dL_law_1111 rfl (lv_at hl 0 rfl) ?_
  refine lv_iload hx hb dL_law_1112 (lv_at hl 5 rfl) ?_
  refine lv_iconst (v := nI 2) hx hb dL_law_1114 (by decide +kernel) ?_
  refine x_iaddN hx hb dL_law_1115 ?_
  refine x_sldN hx hb hX hsb hbA hS (by omega) (by omega) dL_law_1116 ?_
  refine lv_aload_n hx hb dL_law_1117 rfl (lv_at hl 0 rfl) ?_
  refine lv_iload hx hb dL_law_1118 (lv_at hl 5 rfl) ?_
  refine lv_iconst (v := nI 3) hx hb dL_law_1120 (by decide +kernel) ?_
  refine x_iaddN hx hb dL_law_1121 ?_
  refine x_sldN hx hb hX hsb hbA hS (by omega) (by omega) dL_law_1122 ?_
  refine lv_aload_n hx hb dL_law_1123 rfl (lv_at hl 3 rfl) ?_
  refine x_runi (vx_runSW (As := [.ref xa, .int ((xs (i + 1))), .int ((xs (i + 2))), .int ((xs (i + 3))), .ref oA]) (rest := []) hC (c_L_wire (k_wire hJ.2.1 hgt hg ho hst) hxo (hJ.2.2.2.1.1) hoA) (vx_cwSW 5 hts gL_law_L_wire rfl rfl rfl qdL_wire.2 ⟨Nat.le_of_ble_eq_true rfl, Nat.le_of_ble_eq_true rfl⟩) (x_preSw hK ((hZ.at hS).narrow hsA) hN) rfl rfl hl.1 rfl (lv_room (Nat.le_of_ble_eq_true rfl)) dL_law_1124 ⟨by show ce + 1 ≤ 601024; omega, by show sl + 6 ≤ 7293034; omega⟩) hS hsA (fun r1 H1 locs hfr1 hq1 hS => ?_)
  obtain ⟨er1, tn, ow, hJ1, hov⟩ := afterW hJ hq1 (fun v H2 h => h) (fun _ => ⟨rfl, rfl, rfl, rfl, rfl⟩)
  rw [er1]
  have hK3 : k2 (vS n (xs (i + 1)) && vS n (xs (i + 2))) (inR (nI 0) (nI 1000000) (xs (i + 3))) ≤ 3 := qk2_le _ _
  refine lv_istore (lv' := [(6, .int (nI (k2 (vS n (xs (i + 1)) && vS n (xs (i + 2))) (inR (nI 0) (nI 1000000) (xs (i + 3)))))), (0, .ref sb), (1, .ref xa), (2, .ref (b 0)), (3, .ref oA), (4, .ref oD), (5, .int (nI i))]) hx hb dL_law_1127 hl (by decide) rfl (fun ls hl => ?_)
  refine lv_aload_n hx hb dL_law_1129 rfl (lv_at hl 3 rfl) ?_
  refine lv_aload_n hx hb dL_law_1130 rfl (lv_at hl 1 rfl) ?_
  refine lv_iload hx hb dL_law_1131 (lv_at hl 6 rfl) ?_
  refine lv_iconst (v := nI 1) hx hb dL_law_1133 (by decide +kernel) ?_
  refine x_iaddN hx hb dL_law_1134 ?_
  refine x_sldN hx hb hX hsb hbA hS (by omega) (by omega) dL_law_1135 ?_
  refine lv_aload_n hx hb dL_law_1136 rfl (lv_at hl 1 rfl) ?_
  refine lv_iload hx hb dL_law_1137 (lv_at hl 6 rfl) ?_
  refine lv_iconst (v := nI 2) hx hb dL_law_1139 (by decide +kernel) ?_
  refine x_iaddN hx hb dL_law_1140 ?_
  refine x_sldN hx hb hX hsb hbA hS (by omega) (by omega) dL_law_1141 ?_
  refine lv_aload_n hx hb dL_law_1142 rfl (lv_at hl 1 rfl) ?_
  refine lv_iload hx hb dL_law_1143 (lv_at hl 6 rfl) ?_
  refine lv_iconst (v := nI 3) hx hb dL_law_1145 (by decide +kernel) ?_
  refine x_iaddN hx hb dL_law_1146 ?_
  refine x_sldN hx hb hX hsb hbA hS (by omega) (by omega) dL_law_1147 ?_
  obtain ⟨⟨mi, ma, hPm, hm1, hm2, hm3, hm4⟩, ht6⟩ := hJ1.2.2.1
  have hsM : ∀ q, aM tn H1 q → aN s q := sgM hJ1.1 hJ1.2.2.2.2.2
  have hcm := c_X4_wire (l := l) (A := aM tn H1) (x1 := (xs (i + 1))) (x2 := (xs (i + 2))) (x3 := (xs (i + 3))) hPm (aM_D ht6) hm1 hm2 (by rw [hm3, hm4]; exact hg)
  rw [hm3, hm4] at hcm
  refine x_runi (va_runV (As := [.int ((xs (i + 1))), .int ((xs (i + 2))), .int ((xs (i + 3)))]) (rest := []) hC hcm (cwV 3 hts gL_law_X4_wire rfl rfl rfl qdX4_wire ⟨Nat.le_of_ble_eq_true rfl, Nat.le_of_ble_eq_true rfl⟩) (x_preV hK (x_recv hK (hPm 0 _ rfl) rfl)) rfl rfl hl.1 rfl (lv_room (Nat.le_of_ble_eq_true rfl)) dL_law_1148 ⟨by show ce + 1 + 0 ≤ 601024; omega, by show sl + 6 + 0 ≤ 7293034; omega⟩) hS hsM (fun r2 H2 locs hfr2 hq2 hS => ?_)
  obtain ⟨hv2, mi2, ma2, hPm2, hmi2, hJ2⟩ := afterM hJ1 hfr2 hq2
  refine lv_istore (lv' := [(7, .int r2), (6, .int (nI (k2 (vS n (xs (i + 1)) && vS n (xs (i + 2))) (inR (nI 0) (nI 1000000) (xs (i + 3)))))), (0, .ref sb), (1, .ref xa), (2, .ref (b 0)), (3, .ref oA), (4, .ref oD), (5, .int (nI i))]) hx hb dL_law_1151 hl (by decide) rfl (fun ls hl => ?_)
  refine lv_aload_n hx hb dL_law_1153 rfl (lv_at hl 4 rfl) ?_
  refine x_rd (va_runV (As := []) (rest := []) hC (c_X4_thrown hPm2) (cwV 0 hts gL_law_X4_thrown rfl rfl rfl qdX4_thrown ⟨Nat.le_of_ble_eq_true rfl, Nat.le_of_ble_eq_true rfl⟩) (x_preV hK (x_recv hK (hPm2 0 _ rfl) rfl)) rfl rfl hl.1 rfl (lv_room (Nat.le_of_ble_eq_true rfl)) dL_law_1154 ⟨by show ce + 1 + 0 + 0 ≤ 601024; omega, by show sl + 6 + 0 + 0 ≤ 7293034; omega⟩) ?_
  rw [hmi2]
  refine W.eq (g2 := F0 m 1157 ls [.int (nI (k2 (vS n (xs (i + 1)) && vS n (xs (i + 2))) (inR (nI 0) (nI 1000000) (xs (i + 3)))))]) rfl ?_
  refine lv_iload hx hb dL_law_1157 (lv_at hl 1 rfl) ?_
  refine x_icmp_eq (tgt := 1164) hx hb (by omega) (by omega) dL_law_1159 (by decide) (fun c_1 => ?_) (fun c_1 => ?_)
  · refine lv_iload hx hb dL_law_1164 (lv_at hl 1 rfl) ?_
    refine x_if_neN (tgt := 1181) hx hb (by omega) dL_law_1166 (by decide) (fun c_2 => ?_) (fun c_2 => ?_)
    · refine lv_goto (tgt := 1455) hx hb dL_law_1181 (by decide) ?_
      refine W.widen (k := ce + 8) (n := sl + 100) (by omega) (by omega) ?_
      exact kont _ _ ls ⟨tn, _, _, _, _, _, ow, od, hJ2, ⟨hg, ho, hz⟩⟩ hS (lv_sub hl [2, 3, 4, 5, 6, 7] rfl)
    · have e8 : ow 0 = r2.toInt64 := (hov c_2).trans (congrArg Int32.toInt64 ((w_wire hg c_2).trans (hv2 c_2).symm))
      refine lv_aload_n hx hb dL_law_1169 rfl (lv_at hl 5 rfl) ?_
      refine lv_iconst (v := nI 0) hx hb dL_law_1170 (by decide +kernel) ?_
      refine x_laldN hx hb hK (hJ2.2.2.2.1.1) dL_law_1171 ?_
      rw [e8]
      refine lv_iload hx hb dL_law_1172 (lv_at hl 0 rfl) ?_
      refine lv_i2l (v := r2.toInt64) hx hb dL_law_1174 rfl ?_
      refine W.lcmp hx hb dL_law_1175 ?_
      rw [lg_self]
      refine W.eq (g2 := F0 m 1176 ls [.int (nI 0)]) rfl ?_
      refine x_if_eqN (tgt := 1181) hx hb (by omega) dL_law_1176 (by decide) (fun c_3 => ?_) (fun c_3 => ?_)
      · refine lv_goto (tgt := 1455) hx hb dL_law_1181 (by decide) ?_
        refine W.widen (k := ce + 8) (n := sl + 100) (by omega) (by omega) ?_
        exact kont _ _ ls ⟨tn, _, _, _, _, _, ow, od, hJ2, ⟨hg, ho, hz⟩⟩ hS (lv_sub hl [2, 3, 4, 5, 6, 7] rfl)
      · exact absurd c_3 (Nat.lt_irrefl 0)
  · exact absurd rfl c_1
set_option maxHeartbeats 4000000 in
set_option maxRecDepth 100000 in
theorem lc_align {p : Program} {l : Launch} {e : Env} {s : State} {m : MethodId} {below : List Frame} {meth : Method} {c : Code} {Q : State → Prop} {G : gT} {zA : Nat × Nat} {sb Ls : Nat} {xs : Nat → Int32} {xa : Nat} {b : Nat → Nat} {oA oD i ce sl : Nat} {H : Heap} {locs : List Loc} (hF : LFix p l s m c G zA sb Ls xs) (hce : ce + 8 ≤ 601024) (hsl : sl + 100 ≤ 7293034) (hi : i + 5 ≤ Ls) (hI : LI G zA.1 s.heap.size xa b oA oD H) (hS : va_S (aN s) s.heap H locs) (ls : Array Slot) (hl : lv_has ls 9 [(0, .ref sb), (1, .ref xa), (2, .ref (b 0)), (3, .ref oA), (4, .ref oD), (5, .int (nI i))]) (kont : ∀ (H : Heap) (locs : List Loc) (ls : Array Slot), LI G zA.1 s.heap.size xa b oA oD H → va_S (aN s) s.heap H locs → lv_has ls 9 [(0, .ref sb), (1, .ref xa), (2, .ref (b 0)), (3, .ref oA), (4, .ref oD), (5, .int (nI i))] → W p l e rmL_law s m [.ref sb].toArray below meth c H locs (ce + 8) (sl + 100) Q (F0 m 1455 ls [])) : W p l e rmL_law s m [.ref sb].toArray below meth c H locs ce sl Q (F0 m 1184 ls []) := by
  obtain ⟨hx, hb, hml, hown, hts, hK, hZ, hN, hX, hsb, hst, hdn, hLs⟩ := hF
  have hC : CallFix p m c cL_law 9 s [.ref sb].toArray wsL_law RL := ⟨hx, hb, hml, hown, hts⟩
  have hbA : ¬ aN s sb := Nat.not_le.mpr hsb
  obtain ⟨tg, n, hn, L, T, o, ov, od, hJ, hg, ho, hz⟩ := hI
  have hn12 := hg.n
  have hh16 := hg.hn
  have hgt : ∀ q, tg q ≠ 0 → q < H.size := fun q h => (hJ.1 q h).2
  obtain ⟨hsA, hsD, hoA, hoD⟩ := hJ.sW
  obtain ⟨fx, hxo⟩ := hJ.2.1.xo
  refine lv_aload_n hx hb dL_law_1184 rfl (lv_at hl 1 rfl) ?_
  refine lv_aload_n hx hb dL_law_1185 rfl (lv_at hl 0 rfl) ?_
  refine lv_iload hx hb dL_law_1186 (lv_at hl 5 rfl) ?_
  refine lv_iconst (v := nI 1) hx hb dL_law_1188 (by decide +kernel) ?_
  refine x_iaddN hx hb dL_law_1189 ?_
  refine x_sldN hx hb hX hsb hbA hS (by omega) (by omega) dL_law_1190 ?_
  refine lv_aload_n hx hb dL_law_1191 rfl (lv_at hl 0 rfl) ?_
  refine lv_iload hx hb dL_law_1192 (lv_at hl 5 rfl) ?_
  refine lv_iconst (v := nI 2) hx hb dL_law_1194 (by decide +kernel) ?_
  refine x_iaddN hx hb dL_law_1195 ?_
  refine x_sldN hx hb hX hsb hbA hS (by omega) (by omega) dL_law_1196 ?_
  refine lv_aload_n hx hb dL_law_1197 rfl (lv_at hl 3 rfl) ?_
  refine x_runi (vx_runSW (As := [.ref xa, .int ((xs (i + 1))), .int ((xs (i + 2))), .ref oA]) (rest := []) hC (c_L_align (k_align hJ.2.1 hgt hg ho hst) hxo (hJ.2.2.2.1.1) hoA) (vx_cwSW 4 hts gL_law_L_align rfl rfl rfl qdL_align.2 ⟨Nat.le_of_ble_eq_true rfl, Nat.le_of_ble_eq_true rfl⟩) (x_preSw hK ((hZ.at hS).narrow hsA) hN) rfl rfl hl.1 rfl (lv_room (Nat.le_of_ble_eq_true rfl)) dL_law_1198 ⟨by show ce + 1 ≤ 601024; omega, by show sl + 6 ≤ 7293034; omega⟩) hS hsA (fun r1 H1 locs hfr1 hq1 hS => ?_)
  obtain ⟨er1, tn, ow, hJ1, hov⟩ := afterW hJ hq1 (fun v H2 h => h) (fun z => ⟨rfl, rfl, if_neg z, rfl, rfl⟩)
  rw [er1]
  have hK3 : k3 (vS n (xs (i + 1))) (inR (nI 0) (nI 1000000) (xs (i + 2))) (alB L (xs (i + 2)) (clk L (xs (i + 1)).toNatClampNeg (xs (i + 2))) n) ≤ 3 := qk3_le _ _ _
  refine lv_istore (lv' := [(6, .int (nI (k3 (vS n (xs (i + 1))) (inR (nI 0) (nI 1000000) (xs (i + 2))) (alB L (xs (i + 2)) (clk L (xs (i + 1)).toNatClampNeg (xs (i + 2))) n)))), (0, .ref sb), (1, .ref xa), (2, .ref (b 0)), (3, .ref oA), (4, .ref oD), (5, .int (nI i))]) hx hb dL_law_1201 hl (by decide) rfl (fun ls hl => ?_)
  refine lv_aload_n hx hb dL_law_1203 rfl (lv_at hl 3 rfl) ?_
  refine lv_aload_n hx hb dL_law_1204 rfl (lv_at hl 1 rfl) ?_
  refine lv_iload hx hb dL_law_1205 (lv_at hl 6 rfl) ?_
  refine lv_iconst (v := nI 1) hx hb dL_law_1207 (by decide +kernel) ?_
  refine x_iaddN hx hb dL_law_1208 ?_
  refine x_sldN hx hb hX hsb hbA hS (by omega) (by omega) dL_law_1209 ?_
  refine lv_aload_n hx hb dL_law_1210 rfl (lv_at hl 1 rfl) ?_
  refine lv_iload hx hb dL_law_1211 (lv_at hl 6 rfl) ?_
  refine lv_iconst (v := nI 2) hx hb dL_law_1213 (by decide +kernel) ?_
  refine x_iaddN hx hb dL_law_1214 ?_
  refine x_sldN hx hb hX hsb hbA hS (by omega) (by omega) dL_law_1215 ?_
  obtain ⟨⟨mi, ma, hPm, hm1, hm2, hm3, hm4⟩, ht6⟩ := hJ1.2.2.1
  have hsM : ∀ q, aM tn H1 q → aN s q := sgM hJ1.1 hJ1.2.2.2.2.2
  have hcm := c_X4_align (l := l) (A := aM tn H1) (x1 := (xs (i + 1))) (x2 := (xs (i + 2))) hPm (aM_D ht6) hm1 hm2 (by rw [hm3, hm4]; exact hg)
  rw [hm3, hm4] at hcm
  refine x_runi (va_runV (As := [.int ((xs (i + 1))), .int ((xs (i + 2)))]) (rest := []) hC hcm (cwV 2 hts gL_law_X4_align rfl rfl rfl qdX4_align ⟨Nat.le_of_ble_eq_true rfl, Nat.le_of_ble_eq_true rfl⟩) (x_preV hK (x_recv hK (hPm 0 _ rfl) rfl)) rfl rfl hl.1 rfl (lv_room (Nat.le_of_ble_eq_true rfl)) dL_law_1216 ⟨by show ce + 1 + 0 ≤ 601024; omega, by show sl + 6 + 0 ≤ 7293034; omega⟩) hS hsM (fun r2 H2 locs hfr2 hq2 hS => ?_)
  obtain ⟨hv2, mi2, ma2, hPm2, hmi2, hJ2⟩ := afterM hJ1 hfr2 hq2
  refine lv_istore (lv' := [(7, .int r2), (6, .int (nI (k3 (vS n (xs (i + 1))) (inR (nI 0) (nI 1000000) (xs (i + 2))) (alB L (xs (i + 2)) (clk L (xs (i + 1)).toNatClampNeg (xs (i + 2))) n)))), (0, .ref sb), (1, .ref xa), (2, .ref (b 0)), (3, .ref oA), (4, .ref oD), (5, .int (nI i))]) hx hb dL_law_1219 hl (by decide) rfl (fun ls hl => ?_)
  refine lv_aload_n hx hb dL_law_1221 rfl (lv_at hl 4 rfl) ?_
  refine x_rd (va_runV (As := []) (rest := []) hC (c_X4_thrown hPm2) (cwV 0 hts gL_law_X4_thrown rfl rfl rfl qdX4_thrown ⟨Nat.le_of_ble_eq_true rfl, Nat.le_of_ble_eq_true rfl⟩) (x_preV hK (x_recv hK (hPm2 0 _ rfl) rfl)) rfl rfl hl.1 rfl (lv_room (Nat.le_of_ble_eq_true rfl)) dL_law_1222 ⟨by show ce + 1 + 0 + 0 ≤ 601024; omega, by show sl + 6 + 0 + 0 ≤ 7293034; omega⟩) ?_
  rw [hmi2]
  refine W.eq (g2 := F0 m 1225 ls [.int (nI (k3 (vS n (xs (i + 1))) (inR (nI 0) (nI 1000000) (xs (i + 2))) (alB L (xs (i + 2)) (clk L (xs (i + 1)).toNatClampNeg (xs (i + 2))) n)))]) rfl ?_
  refine lv_iload hx hb dL_law_1225 (lv_at hl 1 rfl) ?_
  refine x_icmp_eq (tgt := 1232) hx hb (by omega) (by omega) dL_law_1227 (by decide) (fun c_1 => ?_) (fun c_1 => ?_)
  · refine lv_iload hx hb dL_law_1232 (lv_at hl 1 rfl) ?_
    refine x_if_neN (tgt := 1249) hx hb (by omega) dL_law_1234 (by decide) (fun c_2 => ?_) (fun c_2 => ?_)
    · refine lv_goto (tgt := 1455) hx hb dL_law_1249 (by decide) ?_
      refine W.widen (k := ce + 8) (n := sl + 100) (by omega) (by omega) ?_
      exact kont _ _ ls ⟨tn, _, _, _, _, _, ow, od, hJ2, v_align ⟨hg, ho, hz⟩⟩ hS (lv_sub hl [2, 3, 4, 5, 6, 7] rfl)
    · have e8 : ow 0 = r2.toInt64 := (hov c_2).trans (congrArg Int32.toInt64 ((rfl).trans (hv2 c_2).symm))
      refine lv_aload_n hx hb dL_law_1237 rfl (lv_at hl 5 rfl) ?_
      refine lv_iconst (v := nI 0) hx hb dL_law_1238 (by decide +kernel) ?_
      refine x_laldN hx hb hK (hJ2.2.2.2.1.1) dL_law_1239 ?_
      rw [e8]
      refine lv_iload hx hb dL_law_1240 (lv_at hl 0 rfl) ?_
      refine lv_i2l (v := r2.toInt64) hx hb dL_law_1242 rfl ?_
      refine W.lcmp hx hb dL_law_1243 ?_
      rw [lg_self]
      refine W.eq (g2 := F0 m 1244 ls [.int (nI 0)]) rfl ?_
      refine x_if_eqN (tgt := 1249) hx hb (by omega) dL_law_1244 (by decide) (fun c_3 => ?_) (fun c_3 => ?_)
      · refine lv_goto (tgt := 1455) hx hb dL_law_1249 (by decide) ?_
        refine W.widen (k := ce + 8) (n := sl + 100) (by omega) (by omega) ?_
        exact kont _ _ ls ⟨tn, _, _, _, _, _, ow, od, hJ2, v_align ⟨hg, ho, hz⟩⟩ hS (lv_sub hl [2, 3, 4, 5, 6, 7] rfl)
      · exact absurd c_3 (Nat.lt_irrefl 0)
  · exact absurd rfl c_1
set_option maxHeartbeats 4000000 in
set_option maxRecDepth 100000 in
theorem lc_spread {p : Program} {l : Launch} {e : Env} {s : State} {m : MethodId} {below : List Frame} {meth : Method} {c : Code} {Q : State → Prop} {G : gT} {zA : Nat × Nat} {sb Ls : Nat} {xs : Nat → Int32} {xa : Nat} {b : Nat → Nat} {oA oD i ce sl : Nat} {H : Heap} {locs : List Loc} (hF : LFix p l s m c G zA sb Ls xs) (hce : ce + 8 ≤ 601024) (hsl : sl + 100 ≤ 7293034) (hi : i + 5 ≤ Ls) (hI : LI G zA.1 s.heap.size xa b oA oD H) (hS : va_S (aN s) s.heap H locs) (ls : Array Slot) (hl : lv_has ls 9 [(0, .ref sb), (1, .ref xa), (2, .ref (b 0)), (3, .ref oA), (4, .ref oD), (5, .int (nI i))]) (kont : ∀ (H : Heap) (locs : List Loc) (ls : Array Slot), LI G zA.1 s.heap.size xa b oA oD H → va_S (aN s) s.heap H locs → lv_has ls 9 [(0, .ref sb), (1, .ref xa), (2, .ref (b 0)), (3, .ref oA), (4, .ref oD), (5, .int (nI i))] → W p l e rmL_law s m [.ref sb].toArray below meth c H locs (ce + 8) (sl + 100) Q (F0 m 1455 ls [])) : W p l e rmL_law s m [.ref sb].toArray below meth c H locs ce sl Q (F0 m 1252 ls []) := by
  obtain ⟨hx, hb, hml, hown, hts, hK, hZ, hN, hX, hsb, hst, hdn, hLs⟩ := hF
  have hC : CallFix p m c cL_law 9 s [.ref sb].toArray wsL_law RL := ⟨hx, hb, hml, hown, hts⟩
  have hbA : ¬ aN s sb := Nat.not_le.mpr hsb
  obtain ⟨tg, n, hn, L, T, o, ov, od, hJ, hg, ho, hz⟩ := hI
  have hn12 := hg.n
  have hh16 := hg.hn
  have hgt : ∀ q, tg q ≠ 0 → q < H.size := fun q h => (hJ.1 q h).2
  obtain ⟨hsA, hsD, hoA, hoD⟩ := hJ.sW
  obtain ⟨fx, hxo⟩ := hJ.2.1.xo
  refine lv_aload_n hx hb dL_law_1252 rfl (lv_at hl 1 rfl) ?_
  refine lv_aload_n hx hb dL_law_1253 rfl (lv_at hl 0 rfl) ?_
  refine lv_iload hx hb dL_law_1254 (lv_at hl 5 rfl) ?_
  refine lv_iconst (v := nI 1) hx hb dL_law_1256 (by decide +kernel) ?_
  refine x_iaddN hx hb dL_law_1257 ?_
  refine x_sldN hx hb hX hsb hbA hS (by omega) (by omega) dL_law_1258 ?_
  refine lv_aload_n hx hb dL_law_1259 rfl (lv_at hl 3 rfl) ?_
  refine x_runi (vx_runSW (As := [.ref xa, .int ((xs (i + 1))), .ref oA]) (rest := []) hC (c_L_spread (k_spread hJ.2.1 hgt hg ho hst) hxo (hJ.2.2.2.1.1) hoA) (vx_cwSW 3 hts gL_law_L_spread rfl rfl rfl qdL_spread.2 ⟨Nat.le_of_ble_eq_true rfl, Nat.le_of_ble_eq_true rfl⟩) (x_preSw hK ((hZ.at hS).narrow hsA) hN) rfl rfl hl.1 rfl (lv_room (Nat.le_of_ble_eq_true rfl)) dL_law_1260 ⟨by show ce + 1 ≤ 601024; omega, by show sl + 6 ≤ 7293034; omega⟩) hS hsA (fun r1 H1 locs hfr1 hq1 hS => ?_)
  obtain ⟨er1, tn, ow, hJ1, hov⟩ := afterW hJ hq1 (fun v H2 h => h) (fun _ => ⟨rfl, rfl, rfl, rfl, rfl⟩)
  rw [er1]
  have hK3 : k1 (inR (nI 0) (nI 1000000) (xs (i + 1))) ≤ 3 := qk1_le _
  refine lv_istore (lv' := [(6, .int (nI (k1 (inR (nI 0) (nI 1000000) (xs (i + 1)))))), (0, .ref sb), (1, .ref xa), (2, .ref (b 0)), (3, .ref oA), (4, .ref oD), (5, .int (nI i))]) hx hb dL_law_1263 hl (by decide) rfl (fun ls hl => ?_)
  refine lv_aload_n hx hb dL_law_1265 rfl (lv_at hl 3 rfl) ?_
  refine lv_aload_n hx hb dL_law_1266 rfl (lv_at hl 1 rfl) ?_
  refine lv_iload hx hb dL_law_1267 (lv_at hl 6 rfl) ?_
  refine lv_iconst (v := nI 1) hx hb dL_law_1269 (by decide +kernel) ?_
  refine x_iaddN hx hb dL_law_1270 ?_
  refine x_sldN hx hb hX hsb hbA hS (by omega) (by omega) dL_law_1271 ?_
  obtain ⟨⟨mi, ma, hPm, hm1, hm2, hm3, hm4⟩, ht6⟩ := hJ1.2.2.1
  have hsM : ∀ q, aM tn H1 q → aN s q := sgM hJ1.1 hJ1.2.2.2.2.2
  have hcm := c_X4_spread (l := l) (A := aM tn H1) (x1 := (xs (i + 1))) hPm (aM_D ht6) hm1 hm2 (by rw [hm3, hm4]; exact hg)
  rw [hm3, hm4] at hcm
  refine x_runi (va_runV (As := [.int ((xs (i + 1)))]) (rest := []) hC hcm (cwV 1 hts gL_law_X4_spread rfl rfl rfl qdX4_spread ⟨Nat.le_of_ble_eq_true rfl, Nat.le_of_ble_eq_true rfl⟩) (x_preV hK (x_recv hK (hPm 0 _ rfl) rfl)) rfl rfl hl.1 rfl (lv_room (Nat.le_of_ble_eq_true rfl)) dL_law_1272 ⟨by show ce + 1 + 0 ≤ 601024; omega, by show sl + 6 + 0 ≤ 7293034; omega⟩) hS hsM (fun r2 H2 locs hfr2 hq2 hS => ?_)
  obtain ⟨hv2, mi2, ma2, hPm2, hmi2, hJ2⟩ := afterM hJ1 hfr2 hq2
  refine lv_istore (lv' := [(7, .int r2), (6, .int (nI (k1 (inR (nI 0) (nI 1000000) (xs (i + 1)))))), (0, .ref sb), (1, .ref xa), (2, .ref (b 0)), (3, .ref oA), (4, .ref oD), (5, .int (nI i))]) hx hb dL_law_1275 hl (by decide) rfl (fun ls hl => ?_)
  refine lv_aload_n hx hb dL_law_1277 rfl (lv_at hl 4 rfl) ?_
  refine x_rd (va_runV (As := []) (rest := []) hC (c_X4_thrown hPm2) (cwV 0 hts gL_law_X4_thrown rfl rfl rfl qdX4_thrown ⟨Nat.le_of_ble_eq_true rfl, Nat.le_of_ble_eq_true rfl⟩) (x_preV hK (x_recv hK (hPm2 0 _ rfl) rfl)) rfl rfl hl.1 rfl (lv_room (Nat.le_of_ble_eq_true rfl)) dL_law_1278 ⟨by show ce + 1 + 0 + 0 ≤ 601024; omega, by show sl + 6 + 0 + 0 ≤ 7293034; omega⟩) ?_
  rw [hmi2]
  refine W.eq (g2 := F0 m 1281 ls [.int (nI (k1 (inR (nI 0) (nI 1000000) (xs (i + 1)))))]) rfl ?_
  refine lv_iload hx hb dL_law_1281 (lv_at hl 1 rfl) ?_
  refine x_icmp_eq (tgt := 1288) hx hb (by omega) (by omega) dL_law_1283 (by decide) (fun c_1 => ?_) (fun c_1 => ?_)
  · refine lv_iload hx hb dL_law_1288 (lv_at hl 1 rfl) ?_
    refine x_if_neN (tgt := 1305) hx hb (by omega) dL_law_1290 (by decide) (fun c_2 => ?_) (fun c_2 => ?_)
    · refine lv_goto (tgt := 1455) hx hb dL_law_1305 (by decide) ?_
      refine W.widen (k := ce + 8) (n := sl + 100) (by omega) (by omega) ?_
      exact kont _ _ ls ⟨tn, _, _, _, _, _, ow, od, hJ2, ⟨hg, ho, hz⟩⟩ hS (lv_sub hl [2, 3, 4, 5, 6, 7] rfl)
    · have e8 : ow 0 = r2.toInt64 := (hov c_2).trans (congrArg Int32.toInt64 (((spread_eq hg (k1_0 c_2)).symm).trans (hv2 c_2).symm))
      refine lv_aload_n hx hb dL_law_1293 rfl (lv_at hl 5 rfl) ?_
      refine lv_iconst (v := nI 0) hx hb dL_law_1294 (by decide +kernel) ?_
      refine x_laldN hx hb hK (hJ2.2.2.2.1.1) dL_law_1295 ?_
      rw [e8]
      refine lv_iload hx hb dL_law_1296 (lv_at hl 0 rfl) ?_
      refine lv_i2l (v := r2.toInt64) hx hb dL_law_1298 rfl ?_
      refine W.lcmp hx hb dL_law_1299 ?_
      rw [lg_self]
      refine W.eq (g2 := F0 m 1300 ls [.int (nI 0)]) rfl ?_
      refine x_if_eqN (tgt := 1305) hx hb (by omega) dL_law_1300 (by decide) (fun c_3 => ?_) (fun c_3 => ?_)
      · refine lv_goto (tgt := 1455) hx hb dL_law_1305 (by decide) ?_
        refine W.widen (k := ce + 8) (n := sl + 100) (by omega) (by omega) ?_
        exact kont _ _ ls ⟨tn, _, _, _, _, _, ow, od, hJ2, ⟨hg, ho, hz⟩⟩ hS (lv_sub hl [2, 3, 4, 5, 6, 7] rfl)
      · exact absurd c_3 (Nat.lt_irrefl 0)
  · exact absurd rfl c_1
set_option maxHeartbeats 4000000 in
set_option maxRecDepth 100000 in
theorem lc_count {p : Program} {l : Launch} {e : Env} {s : State} {m : MethodId} {below : List Frame} {meth : Method} {c : Code} {Q : State → Prop} {G : gT} {zA : Nat × Nat} {sb Ls : Nat} {xs : Nat → Int32} {xa : Nat} {b : Nat → Nat} {oA oD i ce sl : Nat} {H : Heap} {locs : List Loc} (hF : LFix p l s m c G zA sb Ls xs) (hce : ce + 8 ≤ 601024) (hsl : sl + 100 ≤ 7293034) (hi : i + 5 ≤ Ls) (hI : LI G zA.1 s.heap.size xa b oA oD H) (hS : va_S (aN s) s.heap H locs) (ls : Array Slot) (hl : lv_has ls 9 [(0, .ref sb), (1, .ref xa), (2, .ref (b 0)), (3, .ref oA), (4, .ref oD), (5, .int (nI i))]) (kont : ∀ (H : Heap) (locs : List Loc) (ls : Array Slot), LI G zA.1 s.heap.size xa b oA oD H → va_S (aN s) s.heap H locs → lv_has ls 9 [(0, .ref sb), (1, .ref xa), (2, .ref (b 0)), (3, .ref oA), (4, .ref oD), (5, .int (nI i))] → W p l e rmL_law s m [.ref sb].toArray below meth c H locs (ce + 8) (sl + 100) Q (F0 m 1455 ls [])) : W p l e rmL_law s m [.ref sb].toArray below meth c H locs ce sl Q (F0 m 1308 ls []) := by
  obtain ⟨hx, hb, hml, hown, hts, hK, hZ, hN, hX, hsb, hst, hdn, hLs⟩ := hF
  have hC : CallFix p m c cL_law 9 s [.ref sb].toArray wsL_law RL := ⟨hx, hb, hml, hown, hts⟩
  have hbA : ¬ aN s sb := Nat.not_le.mpr hsb
  obtain ⟨tg, n, hn, L, T, o, ov, od, hJ, hg, ho, hz⟩ := hI
  have hn12 := hg.n
  have hh16 := hg.hn
  have hgt : ∀ q, tg q ≠ 0 → q < H.size := fun q h => (hJ.1 q h).2
  obtain ⟨hsA, hsD, hoA, hoD⟩ := hJ.sW
  obtain ⟨fx, hxo⟩ := hJ.2.1.xo
  refine lv_aload_n hx hb dL_law_1308 rfl (lv_at hl 1 rfl) ?_
  refine lv_aload_n hx hb dL_law_1309 rfl (lv_at hl 0 rfl) ?_
  refine lv_iload hx hb dL_law_1310 (lv_at hl 5 rfl) ?_
  refine lv_iconst (v := nI 1) hx hb dL_law_1312 (by decide +kernel) ?_
  refine x_iaddN hx hb dL_law_1313 ?_
  refine x_sldN hx hb hX hsb hbA hS (by omega) (by omega) dL_law_1314 ?_
  refine lv_aload_n hx hb dL_law_1315 rfl (lv_at hl 3 rfl) ?_
  refine x_runi (vx_runSW (As := [.ref xa, .int ((xs (i + 1))), .ref oA]) (rest := []) hC (c_L_count (k_count hJ.2.1 hgt hg ho hst) hxo (hJ.2.2.2.1.1) hoA) (vx_cwSW 3 hts gL_law_L_count rfl rfl rfl qdL_count.2 ⟨Nat.le_of_ble_eq_true rfl, Nat.le_of_ble_eq_true rfl⟩) (x_preSw hK ((hZ.at hS).narrow hsA) hN) rfl rfl hl.1 rfl (lv_room (Nat.le_of_ble_eq_true rfl)) dL_law_1316 ⟨by show ce + 1 ≤ 601024; omega, by show sl + 6 ≤ 7293034; omega⟩) hS hsA (fun r1 H1 locs hfr1 hq1 hS => ?_)
  obtain ⟨er1, tn, ow, hJ1, hov⟩ := afterW hJ hq1 (fun v H2 h => h) (fun _ => ⟨rfl, rfl, rfl, rfl, rfl⟩)
  rw [er1]
  have hK3 : k1 (inR (nI 0) (nI 4) (xs (i + 1))) ≤ 3 := qk1_le _
  refine lv_istore (lv' := [(6, .int (nI (k1 (inR (nI 0) (nI 4) (xs (i + 1)))))), (0, .ref sb), (1, .ref xa), (2, .ref (b 0)), (3, .ref oA), (4, .ref oD), (5, .int (nI i))]) hx hb dL_law_1319 hl (by decide) rfl (fun ls hl => ?_)
  refine lv_aload_n hx hb dL_law_1321 rfl (lv_at hl 3 rfl) ?_
  refine lv_aload_n hx hb dL_law_1322 rfl (lv_at hl 1 rfl) ?_
  refine lv_iload hx hb dL_law_1323 (lv_at hl 6 rfl) ?_
  refine lv_iconst (v := nI 1) hx hb dL_law_1325 (by decide +kernel) ?_
  refine x_iaddN hx hb dL_law_1326 ?_
  refine x_sldN hx hb hX hsb hbA hS (by omega) (by omega) dL_law_1327 ?_
  obtain ⟨⟨mi, ma, hPm, hm1, hm2, hm3, hm4⟩, ht6⟩ := hJ1.2.2.1
  have hsM : ∀ q, aM tn H1 q → aN s q := sgM hJ1.1 hJ1.2.2.2.2.2
  have hcm := c_X4_count (l := l) (A := aM tn H1) (x1 := (xs (i + 1))) hPm (aM_D ht6) hm1 hm2 (by rw [hm3, hm4]; exact hg) (by rw [hm3]; exact ho)
  rw [hm3, hm4] at hcm
  refine x_runi (va_runV (As := [.int ((xs (i + 1)))]) (rest := []) hC hcm (cwV 1 hts gL_law_X4_count rfl rfl rfl qdX4_count ⟨Nat.le_of_ble_eq_true rfl, Nat.le_of_ble_eq_true rfl⟩) (x_preV hK (x_recv hK (hPm 0 _ rfl) rfl)) rfl rfl hl.1 rfl (lv_room (Nat.le_of_ble_eq_true rfl)) dL_law_1328 ⟨by show ce + 1 + 0 ≤ 601024; omega, by show sl + 6 + 0 ≤ 7293034; omega⟩) hS hsM (fun r2 H2 locs hfr2 hq2 hS => ?_)
  obtain ⟨hv2, mi2, ma2, hPm2, hmi2, hJ2⟩ := afterM hJ1 hfr2 hq2
  refine lv_istore (lv' := [(7, .int r2), (6, .int (nI (k1 (inR (nI 0) (nI 4) (xs (i + 1)))))), (0, .ref sb), (1, .ref xa), (2, .ref (b 0)), (3, .ref oA), (4, .ref oD), (5, .int (nI i))]) hx hb dL_law_1331 hl (by decide) rfl (fun ls hl => ?_)
  refine lv_aload_n hx hb dL_law_1333 rfl (lv_at hl 4 rfl) ?_
  refine x_rd (va_runV (As := []) (rest := []) hC (c_X4_thrown hPm2) (cwV 0 hts gL_law_X4_thrown rfl rfl rfl qdX4_thrown ⟨Nat.le_of_ble_eq_true rfl, Nat.le_of_ble_eq_true rfl⟩) (x_preV hK (x_recv hK (hPm2 0 _ rfl) rfl)) rfl rfl hl.1 rfl (lv_room (Nat.le_of_ble_eq_true rfl)) dL_law_1334 ⟨by show ce + 1 + 0 + 0 ≤ 601024; omega, by show sl + 6 + 0 + 0 ≤ 7293034; omega⟩) ?_
  rw [hmi2]
  refine W.eq (g2 := F0 m 1337 ls [.int (nI (k1 (inR (nI 0) (nI 4) (xs (i + 1)))))]) rfl ?_
  refine lv_iload hx hb dL_law_1337 (lv_at hl 1 rfl) ?_
  refine x_icmp_eq (tgt := 1344) hx hb (by omega) (by omega) dL_law_1339 (by decide) (fun c_1 => ?_) (fun c_1 => ?_)
  · refine lv_iload hx hb dL_law_1344 (lv_at hl 1 rfl) ?_
    refine x_if_neN (tgt := 1361) hx hb (by omega) dL_law_1346 (by decide) (fun c_2 => ?_) (fun c_2 => ?_)
    · refine lv_goto (tgt := 1455) hx hb dL_law_1361 (by decide) ?_
      refine W.widen (k := ce + 8) (n := sl + 100) (by omega) (by omega) ?_
      exact kont _ _ ls ⟨tn, _, _, _, _, _, ow, od, hJ2, ⟨hg, ho, hz⟩⟩ hS (lv_sub hl [2, 3, 4, 5, 6, 7] rfl)
    · have e8 : ow 0 = r2.toInt64 := (hov c_2).trans (congrArg Int32.toInt64 ((rfl).trans (hv2 c_2).symm))
      refine lv_aload_n hx hb dL_law_1349 rfl (lv_at hl 5 rfl) ?_
      refine lv_iconst (v := nI 0) hx hb dL_law_1350 (by decide +kernel) ?_
      refine x_laldN hx hb hK (hJ2.2.2.2.1.1) dL_law_1351 ?_
      rw [e8]
      refine lv_iload hx hb dL_law_1352 (lv_at hl 0 rfl) ?_
      refine lv_i2l (v := r2.toInt64) hx hb dL_law_1354 rfl ?_
      refine W.lcmp hx hb dL_law_1355 ?_
      rw [lg_self]
      refine W.eq (g2 := F0 m 1356 ls [.int (nI 0)]) rfl ?_
      refine x_if_eqN (tgt := 1361) hx hb (by omega) dL_law_1356 (by decide) (fun c_3 => ?_) (fun c_3 => ?_)
      · refine lv_goto (tgt := 1455) hx hb dL_law_1361 (by decide) ?_
        refine W.widen (k := ce + 8) (n := sl + 100) (by omega) (by omega) ?_
        exact kont _ _ ls ⟨tn, _, _, _, _, _, ow, od, hJ2, ⟨hg, ho, hz⟩⟩ hS (lv_sub hl [2, 3, 4, 5, 6, 7] rfl)
      · exact absurd c_3 (Nat.lt_irrefl 0)
  · exact absurd rfl c_1
set_option maxHeartbeats 4000000 in
set_option maxRecDepth 100000 in
theorem lc_error {p : Program} {l : Launch} {e : Env} {s : State} {m : MethodId} {below : List Frame} {meth : Method} {c : Code} {Q : State → Prop} {G : gT} {zA : Nat × Nat} {sb Ls : Nat} {xs : Nat → Int32} {xa : Nat} {b : Nat → Nat} {oA oD i ce sl : Nat} {H : Heap} {locs : List Loc} (hF : LFix p l s m c G zA sb Ls xs) (hce : ce + 8 ≤ 601024) (hsl : sl + 100 ≤ 7293034) (hi : i + 5 ≤ Ls) (hI : LI G zA.1 s.heap.size xa b oA oD H) (hS : va_S (aN s) s.heap H locs) (ls : Array Slot) (hl : lv_has ls 9 [(0, .ref sb), (1, .ref xa), (2, .ref (b 0)), (3, .ref oA), (4, .ref oD), (5, .int (nI i))]) (kont : ∀ (H : Heap) (locs : List Loc) (ls : Array Slot), LI G zA.1 s.heap.size xa b oA oD H → va_S (aN s) s.heap H locs → lv_has ls 9 [(0, .ref sb), (1, .ref xa), (2, .ref (b 0)), (3, .ref oA), (4, .ref oD), (5, .int (nI i))] → W p l e rmL_law s m [.ref sb].toArray below meth c H locs (ce + 8) (sl + 100) Q (F0 m 1455 ls [])) : W p l e rmL_law s m [.ref sb].toArray below meth c H locs ce sl Q (F0 m 1364 ls []) := by
  obtain ⟨hx, hb, hml, hown, hts, hK, hZ, hN, hX, hsb, hst, hdn, hLs⟩ := hF
  have hC : CallFix p m c cL_law 9 s [.ref sb].toArray wsL_law RL := ⟨hx, hb, hml, hown, hts⟩
  have hbA : ¬ aN s sb := Nat.not_le.mpr hsb
  obtain ⟨tg, n, hn, L, T, o, ov, od, hJ, hg, ho, hz⟩ := hI
  have hn12 := hg.n
  have hh16 := hg.hn
  have hgt : ∀ q, tg q ≠ 0 → q < H.size := fun q h => (hJ.1 q h).2
  obtain ⟨hsA, hsD, hoA, hoD⟩ := hJ.sW
  obtain ⟨fx, hxo⟩ := hJ.2.1.xo
  refine lv_aload_n hx hb dL_law_1364 rfl (lv_at hl 1 rfl) ?_
  refine lv_aload_n hx hb dL_law_1365 rfl (lv_at hl 0 rfl) ?_
  refine lv_iload hx hb dL_law_1366 (lv_at hl 5 rfl) ?_
  refine lv_iconst (v := nI 1) hx hb dL_law_1368 (by decide +kernel) ?_
  refine x_iaddN hx hb dL_law_1369 ?_
  refine x_sldN hx hb hX hsb hbA hS (by omega) (by omega) dL_law_1370 ?_
  refine lv_aload hx hb dL_law_1371 (lv_at hl 4 rfl) ?_
  refine x_runi (vx_runSW (As := [.ref xa, .int ((xs (i + 1))), .ref oD]) (rest := []) hC (c_L_error (k_error hJ.2.1 hgt hg ho hst hdn) hxo (hJ.2.2.2.1.2) hoD) (vx_cwSW 3 hts gL_law_L_error rfl rfl rfl qdL_error.2 ⟨Nat.le_of_ble_eq_true rfl, Nat.le_of_ble_eq_true rfl⟩) (x_preSw hK ((hZ.at hS).narrow hsD) hN) rfl rfl hl.1 rfl (lv_room (Nat.le_of_ble_eq_true rfl)) dL_law_1373 ⟨by show ce + 1 ≤ 601024; omega, by show sl + 6 ≤ 7293034; omega⟩) hS hsD (fun r1 H1 locs hfr1 hq1 hS => ?_)
  obtain ⟨er1, tn, ow, hJ1, hov⟩ := afterD hJ hq1 (fun v H2 h => h) (fun _ => ⟨rfl, rfl, rfl, rfl, rfl⟩)
  rw [er1]
  have hK3 : k1 (vS hn (xs (i + 1))) ≤ 3 := qk1_le _
  refine lv_istore (lv' := [(6, .int (nI (k1 (vS hn (xs (i + 1)))))), (0, .ref sb), (1, .ref xa), (2, .ref (b 0)), (3, .ref oA), (4, .ref oD), (5, .int (nI i))]) hx hb dL_law_1376 hl (by decide) rfl (fun ls hl => ?_)
  refine lv_aload_n hx hb dL_law_1378 rfl (lv_at hl 3 rfl) ?_
  refine lv_aload_n hx hb dL_law_1379 rfl (lv_at hl 1 rfl) ?_
  refine lv_iload hx hb dL_law_1380 (lv_at hl 6 rfl) ?_
  refine lv_iconst (v := nI 1) hx hb dL_law_1382 (by decide +kernel) ?_
  refine x_iaddN hx hb dL_law_1383 ?_
  refine x_sldN hx hb hX hsb hbA hS (by omega) (by omega) dL_law_1384 ?_
  obtain ⟨⟨mi, ma, hPm, hm1, hm2, hm3, hm4⟩, ht6⟩ := hJ1.2.2.1
  have hsM : ∀ q, aM tn H1 q → aN s q := sgM hJ1.1 hJ1.2.2.2.2.2
  have hcm := c_X4_error (l := l) (A := aM tn H1) (x1 := (xs (i + 1))) hPm (aM_D ht6) hm1 hm2 (by rw [hm3, hm4]; exact hg) (by rw [hm3]; exact ho) hdn
  rw [hm3, hm4] at hcm
  refine x_rund (va_runV (As := [.int ((xs (i + 1)))]) (rest := []) hC hcm (cwV 1 hts gL_law_X4_error rfl rfl rfl qdX4_error ⟨Nat.le_of_ble_eq_true rfl, Nat.le_of_ble_eq_true rfl⟩) (x_preV hK (x_recv hK (hPm 0 _ rfl) rfl)) rfl rfl hl.1 rfl (lv_room (Nat.le_of_ble_eq_true rfl)) dL_law_1385 ⟨by show ce + 1 + 0 ≤ 601024; omega, by show sl + 6 + 0 ≤ 7293034; omega⟩) hS hsM (fun r2 H2 locs hfr2 hq2 hS => ?_)
  obtain ⟨hv2, mi2, ma2, hPm2, hmi2, hJ2⟩ := afterMx hJ1 hfr2 hq2
  refine lv_dstore (lv' := [(7, .double r2), (6, .int (nI (k1 (vS hn (xs (i + 1)))))), (0, .ref sb), (1, .ref xa), (2, .ref (b 0)), (3, .ref oA), (4, .ref oD), (5, .int (nI i))]) hx hb dL_law_1388 hl (by decide) rfl (fun ls hl => ?_)
  refine lv_aload_n hx hb dL_law_1390 rfl (lv_at hl 4 rfl) ?_
  refine x_rd (va_runV (As := []) (rest := []) hC (c_X4_thrown hPm2) (cwV 0 hts gL_law_X4_thrown rfl rfl rfl qdX4_thrown ⟨Nat.le_of_ble_eq_true rfl, Nat.le_of_ble_eq_true rfl⟩) (x_preV hK (x_recv hK (hPm2 0 _ rfl) rfl)) rfl rfl hl.1 rfl (lv_room (Nat.le_of_ble_eq_true rfl)) dL_law_1391 ⟨by show ce + 1 + 0 + 0 ≤ 601024; omega, by show sl + 6 + 0 + 0 ≤ 7293034; omega⟩) ?_
  rw [hmi2]
  refine W.eq (g2 := F0 m 1394 ls [.int (nI (k1 (vS hn (xs (i + 1)))))]) rfl ?_
  refine lv_iload hx hb dL_law_1394 (lv_at hl 1 rfl) ?_
  refine x_icmp_eq (tgt := 1401) hx hb (by omega) (by omega) dL_law_1396 (by decide) (fun c_1 => ?_) (fun c_1 => ?_)
  · refine lv_iload hx hb dL_law_1401 (lv_at hl 1 rfl) ?_
    refine x_if_neN (tgt := 1438) hx hb (by omega) dL_law_1403 (by decide) (fun c_2 => ?_) (fun c_2 => ?_)
    · refine lv_goto (tgt := 1455) hx hb dL_law_1438 (by decide) ?_
      refine W.widen (k := ce + 8) (n := sl + 100) (by omega) (by omega) ?_
      exact kont _ _ ls ⟨tn, _, _, _, _, _, ov, ow, hJ2, ⟨hg, ho, hz⟩⟩ hS (lv_sub hl [2, 3, 4, 5, 6, 7] rfl)
    · have e8 : ow 0 = r2 := (hov c_2).trans (hv2 c_2).symm
      obtain ⟨cd9, ecd9⟩ : ∃ cd9 : Int32, Op.cmpValue (FP.dcmp r2 r2) .l = cd9 := ⟨_, rfl⟩
      refine lv_aload hx hb dL_law_1406 (lv_at hl 6 rfl) ?_
      refine lv_iconst (v := nI 0) hx hb dL_law_1408 (by decide +kernel) ?_
      refine x_daldN hx hb hK (hJ2.2.2.2.1.2) dL_law_1409 ?_
      rw [e8]
      refine lv_dload hx hb dL_law_1410 (lv_at hl 0 rfl) ?_
      refine lv_dcmp hx hb dL_law_1412 ?_
      refine W.eq (g2 := F0 m 1413 ls [.int cd9]) (by rw [ecd9]) ?_
      refine lv_if_eq (tgt := 1438) hx hb dL_law_1413 (by decide) (fun c_3 => ?_) (fun c_3 => ?_)
      · refine lv_goto (tgt := 1455) hx hb dL_law_1438 (by decide) ?_
        refine W.widen (k := ce + 8) (n := sl + 100) (by omega) (by omega) ?_
        exact kont _ _ ls ⟨tn, _, _, _, _, _, ov, ow, hJ2, ⟨hg, ho, hz⟩⟩ hS (lv_sub hl [2, 3, 4, 5, 6, 7] rfl)
      · refine lv_aload hx hb dL_law_1416 (lv_at hl 6 rfl) ?_
        refine lv_iconst (v := nI 0) hx hb dL_law_1418 (by decide +kernel) ?_
        refine x_daldN hx hb hK (hJ2.2.2.2.1.2) dL_law_1419 ?_
        rw [e8]
        refine lv_aload hx hb dL_law_1420 (lv_at hl 6 rfl) ?_
        refine lv_iconst (v := nI 0) hx hb dL_law_1422 (by decide +kernel) ?_
        refine x_daldN hx hb hK (hJ2.2.2.2.1.2) dL_law_1423 ?_
        rw [e8]
        refine lv_dcmp hx hb dL_law_1424 ?_
        refine W.eq (g2 := F0 m 1425 ls [.int cd9]) (by rw [ecd9]) ?_
        refine lv_if_eq (tgt := 1436) hx hb dL_law_1425 (by decide) (fun c_4 => ?_) (fun c_4 => ?_)
        · exact absurd c_4 c_3
        · refine lv_dload hx hb dL_law_1428 (lv_at hl 0 rfl) ?_
          refine lv_dload hx hb dL_law_1430 (lv_at hl 0 rfl) ?_
          refine lv_dcmp hx hb dL_law_1432 ?_
          refine W.eq (g2 := F0 m 1433 ls [.int cd9]) (by rw [ecd9]) ?_
          refine lv_if_ne (tgt := 1438) hx hb dL_law_1433 (by decide) (fun c_5 => ?_) (fun c_5 => ?_)
          · refine lv_goto (tgt := 1455) hx hb dL_law_1438 (by decide) ?_
            refine W.widen (k := ce + 8) (n := sl + 100) (by omega) (by omega) ?_
            exact kont _ _ ls ⟨tn, _, _, _, _, _, ov, ow, hJ2, ⟨hg, ho, hz⟩⟩ hS (lv_sub hl [2, 3, 4, 5, 6, 7] rfl)
          · exact absurd c_5 c_3
  · exact absurd rfl c_1
