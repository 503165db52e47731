-- ===== the law: the last case, and the loop over the script =====
theorem afterS {G : gT} {z0 base xa : Nat} {b : Nat → Nat} {oA oD : Nat} {tg : Nat → Nat} {n hn : Nat} {L T : Nat → Int32} {o : List Nat} {ov : Nat → Int64} {od : Nat → UInt64} {n1 hn1 : Nat} {L1 T1 : Nat → Int32} {H0 H1 : Heap} (hJ : LJ G z0 base xa b oA oD tg n hn L T o n1 hn1 L1 T1 ov od H0) (hf : fr (fun q => 2 ≤ tg q ∧ tg q ≤ 8) H0 H1) (hW : CW G z0 tg xa n hn L T o H1) : LJ G z0 base xa b oA oD tg n hn L T o n1 hn1 L1 T1 ov od H1 := by
  obtain ⟨j1, -, ⟨⟨mi, ma, j3, j4⟩, j5⟩, ⟨j6, j7⟩, ⟨j8, j9⟩, j10⟩ := hJ
  have s1 := hf.1
  have k1 : ∀ q, q < H0.size → ¬ (2 ≤ tg q ∧ tg q ≤ 8) → H1[q]? = H0[q]? := fun q hq hx => hf.2 q hq hx
  exact ⟨fun q hq => by have := j1 q hq; omega, hW, ⟨⟨mi, ma, mP_kp j3 (fun k hk hl => k1 _ hl (fun z => by have := j5 k hk; omega)), j4⟩, j5⟩, ⟨ptk j6 (fun hl9 => k1 _ hl9 (fun z => by omega)), ptk j7 (fun hl9 => k1 _ hl9 (fun z => by omega))⟩, ⟨j8, j9⟩, by omega⟩
set_option maxHeartbeats 4000000 in
set_option maxRecDepth 100000 in
theorem lc_digest {p : Program} {l : Launch} {e : Env} {s : State} {m : MethodId} {below : List Frame} {meth : Method} {c : Code} {Q : State → Prop} {G : gT} {zA : Nat × Nat} {sb Ls : Nat} {xs : Nat → Int32} {xa : Nat} {b : Nat → Nat} {oA oD i ce sl : Nat} {H : Heap} {locs : List Loc} (hF : LFix p l s m c G zA sb Ls xs) (hce : ce + 8 ≤ 601024) (hsl : sl + 100 ≤ 7293034) (hi : i + 5 ≤ Ls) (hI : LI G zA.1 s.heap.size xa b oA oD H) (hS : va_S (aN s) s.heap H locs) (ls : Array Slot) (hl : lv_has ls 9 [(0, .ref sb), (1, .ref xa), (2, .ref (b 0)), (3, .ref oA), (4, .ref oD), (5, .int (nI i))]) (kont : ∀ (H : Heap) (locs : List Loc) (ls : Array Slot), LI G zA.1 s.heap.size xa b oA oD H → va_S (aN s) s.heap H locs → lv_has ls 9 [(0, .ref sb), (1, .ref xa), (2, .ref (b 0)), (3, .ref oA), (4, .ref oD), (5, .int (nI i))] → W p l e rmL_law s m [.ref sb].toArray below meth c H locs (ce + 8) (sl + 100) Q (F0 m 1455 ls [])) : W p l e rmL_law s m [.ref sb].toArray below meth c H locs ce sl Q (F0 m 1441 ls []) := by
  obtain ⟨hx, hb, hml, hown, hts, hK, hZ, hN, hX, hsb, hst, hdn, hLs⟩ := hF
  have hC : CallFix p m c cL_law 9 s [.ref sb].toArray wsL_law RL := ⟨hx, hb, hml, hown, hts⟩
  have hbA : ¬ aN s sb := Nat.not_le.mpr hsb
  obtain ⟨tg, n, hn, L, T, o, ov, od, hJ, hg, ho, hz⟩ := hI
  have hn12 := hg.n
  have hh16 := hg.hn
  have hgt : ∀ q, tg q ≠ 0 → q < H.size := fun q h => (hJ.1 q h).2
  obtain ⟨fx, hxo⟩ := hJ.2.1.xo
  refine lv_aload_n hx hb dL_law_1441 rfl (lv_at hl 1 rfl) ?_
  refine x_runl (va_runV (As := []) (rest := []) hC (k_digest hJ.2.1 hgt hg ho) (cwV 0 hts gL_law_X3_digest rfl rfl rfl qdX3_digest ⟨Nat.le_of_ble_eq_true rfl, Nat.le_of_ble_eq_true rfl⟩) (x_preVn hK hZ.nn (x_recv hK hxo rfl)) rfl rfl hl.1 rfl (lv_room (Nat.le_of_ble_eq_true rfl)) dL_law_1442 ⟨by show ce + 0 ≤ 601024; omega, by show sl + 0 ≤ 7293034; omega⟩) hS (fun q h9 => (hJ.1 q (fun z => by have h8 : 2 ≤ tg q ∧ tg q ≤ 8 := h9; omega)).1) (fun r1 H1 locs hfr1 hq1 hS => ?_)
  obtain ⟨er1, hW1⟩ := hq1
  have hJ1 := afterS hJ hfr1 hW1
  subst er1
  refine lv_aload_n hx hb dL_law_1445 rfl (lv_at hl 2 rfl) ?_
  obtain ⟨⟨mi, ma, hPm, hm1, hm2, hm3, hm4⟩, ht6⟩ := hJ1.2.2.1
  have hsM : ∀ q, aM tg H1 q → aN s q := sgM hJ1.1 hJ1.2.2.2.2.2
  have hcm := c_X4_digest (l := l) (A := aM tg H1) hPm (aM_D ht6) hm1 hm2 (by rw [hm3, hm4]; exact hg) (by rw [hm3]; exact ho)
  rw [hm3, hm4] at hcm
  refine x_runl (va_runV (As := []) (rest := [.long (dig n hn L T o)]) hC hcm (cwV 0 hts gL_law_X4_digest rfl rfl rfl qdX4_digest ⟨Nat.le_of_ble_eq_true rfl, Nat.le_of_ble_eq_true rfl⟩) (x_preV hK (x_recv hK (hPm 0 _ rfl) rfl)) rfl rfl hl.1 rfl (lv_room (Nat.le_of_ble_eq_true rfl)) dL_law_1446 ⟨by show ce + 0 + 0 ≤ 601024; omega, by show sl + 0 + 0 ≤ 7293034; omega⟩) hS hsM (fun r2 H2 locs hfr2 hq2 hS => ?_)
  obtain ⟨hv2, mi2, ma2, hPm2, hmi2, hJ2⟩ := afterMx hJ1 hfr2 hq2
  rw [hv2 rfl]
  refine W.lcmp hx hb dL_law_1449 ?_
  rw [lg_self]
  refine W.eq (g2 := F0 m 1450 ls [.int (nI 0)]) rfl ?_
  refine x_if_eqN (tgt := 1455) hx hb (by omega) dL_law_1450 (by decide) (fun c_3 => ?_) (fun c_3 => ?_)
  · refine W.widen (k := ce + 8) (n := sl + 100) (by omega) (by omega) ?_
    exact kont _ _ ls ⟨tg, _, _, _, _, _, ov, od, hJ2, ⟨hg, ho, hz⟩⟩ hS hl
  · exact absurd c_3 (Nat.lt_irrefl 0)
theorem and31 (x : Int32) : ∃ t : Nat, t < 32 ∧ x &&& nI 31 = nI t := by
  refine ⟨x.toBitVec.toNat &&& 31, Nat.lt_of_le_of_lt Nat.and_le_right (by decide), ?_⟩
  apply Int32.toBitVec_inj.mp
  rw [Int32.toBitVec_and]
  apply BitVec.eq_of_toNat_eq
  rw [BitVec.toNat_and]
  show x.toBitVec.toNat &&& 31 = (BitVec.ofNat 32 (x.toBitVec.toNat &&& 31)).toNat
  rw [BitVec.toNat_ofNat, Nat.mod_eq_of_lt (Nat.lt_of_le_of_lt Nat.and_le_right (by decide))]
theorem sub5 {Ls j : Nat} (hLs : Ls ≤ 2560) (hj : 5 * j ≤ Ls) (h : ¬ Int32.ofNat Ls - nI 5 < nI (5 * j)) : 5 * j + 5 ≤ Ls := by
  rcases Nat.lt_or_ge Ls 5 with c5 | c5
  · exfalso
    have ej : j = 0 := by omega
    subst ej
    exact h ((by decide +kernel : ∀ k : Nat, k < 5 → nI k - nI 5 < nI (5 * 0)) Ls c5)
  · have e : Int32.ofNat Ls - nI 5 = nI (Ls - 5) := pk_sub c5
    rw [e, nI_ltI (by omega) (by omega)] at h
    omega
set_option maxHeartbeats 4000000 in
set_option maxRecDepth 100000 in
theorem law_loop {p : Program} {l : Launch} {e : Env} {s : State} {m : MethodId} {below : List Frame} {meth : Method} {c : Code} {Q : State → Prop} {G : gT} {zA : Nat × Nat} {sb Ls : Nat} {xs : Nat → Int32} {xa : Nat} {b : Nat → Nat} {oA oD : Nat} (hF : LFix p l s m c G zA sb Ls xs) (kend : ∀ (H : Heap) (locs : List Loc) (ls : Array Slot), va_S (aN s) s.heap H locs → lv_has ls 9 [(0, .ref sb)] → W p l e rmL_law s m [.ref sb].toArray below meth c H locs 601024 7293034 Q (F0 m 1461 ls [])) : ∀ (fu j : Nat) (H : Heap) (locs : List Loc) (ls : Array Slot), Ls - 5 * j < fu → 5 * j ≤ Ls → LI G zA.1 s.heap.size xa b oA oD H → va_S (aN s) s.heap H locs → lv_has ls 9 [(0, .ref sb), (1, .ref xa), (2, .ref (b 0)), (3, .ref oA), (4, .ref oD), (5, .int (nI (5 * j)))] → W p l e rmL_law s m [.ref sb].toArray below meth c H locs (20 + 8 * j) (568 + 100 * j) Q (F0 m 28 ls []) := by
  intro fu
  induction fu with
  | zero => intro j H locs ls h; omega
  | succ fu ih =>
    intro j H locs ls hfu hj hI hS hl
    obtain ⟨hx, hb, hml, hown, hts, hK, hZ, hN, hX, hsb, hst, hdn, hLs⟩ := id hF
    have hbA : ¬ aN s sb := Nat.not_le.mpr hsb
    refine lv_iload hx hb dL_law_28 (lv_at hl 5 rfl) ?_
    refine lv_aload_n hx hb dL_law_30 rfl (lv_at hl 0 rfl) ?_
    refine va_slen hx hb hX hsb hbA hS dL_law_31 ?_
    refine lv_iconst (v := nI 5) hx hb dL_law_32 (by decide +kernel) ?_
    refine lv_isub hx hb dL_law_33 ?_
    refine lv_icmp_gt (tgt := 1461) hx hb dL_law_34 (by decide) (fun _ => ?_) (fun c_1 => ?_)
    · refine W.widen (k := 601024) (n := 7293034) (by omega) (by omega) ?_
      exact kend H locs ls hS (lv_sub hl [0] rfl)
    · have h5 := sub5 hLs hj c_1
      refine lv_aload_n hx hb dL_law_37 rfl (lv_at hl 0 rfl) ?_
      refine lv_iload hx hb dL_law_38 (lv_at hl 5 rfl) ?_
      refine x_sldN hx hb hX hsb hbA hS (by omega) (by omega) dL_law_40 ?_
      refine lv_bipush (v := nI 31) hx hb dL_law_41 (by decide +kernel) ?_
      refine lv_iand hx hb dL_law_43 ?_
      obtain ⟨t, ht, et⟩ := and31 (xs (5 * j))
      rw [et]
      clear et
      have kont : ∀ (H : Heap) (locs : List Loc) (ls : Array Slot), LI G zA.1 s.heap.size xa b oA oD H → va_S (aN s) s.heap H locs → lv_has ls 9 [(0, .ref sb), (1, .ref xa), (2, .ref (b 0)), (3, .ref oA), (4, .ref oD), (5, .int (nI (5 * j)))] → W p l e rmL_law s m [.ref sb].toArray below meth c H locs (20 + 8 * j + 8) (568 + 100 * j + 100) Q (F0 m 1455 ls []) := fun H locs ls hI hS hl => by
        refine lv_iinc (v := nI (5 * (j + 1))) (lv' := [(5, .int (nI (5 * (j + 1)))), (0, .ref sb), (1, .ref xa), (2, .ref (b 0)), (3, .ref oA), (4, .ref oD)]) hx hb dL_law_1455 hl (k := 5) rfl ((congrArg (nI (5 * j) + ·) (by decide +kernel : Int32.ofInt 5 = nI 5)).trans (nI_add (5 * j) 5)) (by decide) rfl (fun ls hl => ?_)
        refine lv_goto (tgt := 28) hx hb dL_law_1458 (by decide) ?_
        exact ih (j + 1) H locs ls (by omega) (by omega) hI hS (lv_sub hl [1, 2, 3, 4, 5, 0] rfl)
      match t, ht with
      | 0, _ =>
        refine lv_tableIn (off := 96) (tgt := 140) hx hb dL_law_44 (by decide +kernel) (by decide +kernel) (by decide +kernel) (by decide) ?_
        exact lc_build hF (by omega) (by omega) h5 hI hS ls hl kont
      | 1, _ =>
        refine lv_tableIn (off := 176) (tgt := 220) hx hb dL_law_44 (by decide +kernel) (by decide +kernel) (by decide +kernel) (by decide) ?_
        exact lc_cloud hF (by omega) (by omega) h5 hI hS ls hl kont
      | 2, _ =>
        refine lv_tableIn (off := 256) (tgt := 300) hx hb dL_law_44 (by decide +kernel) (by decide +kernel) (by decide +kernel) (by decide) ?_
        exact lc_clear hF (by omega) (by omega) h5 hI hS ls hl kont
      | 3, _ =>
        refine lv_tableIn (off := 312) (tgt := 356) hx hb dL_law_44 (by decide +kernel) (by decide +kernel) (by decide +kernel) (by decide) ?_
        exact lc_correct hF (by omega) (by omega) h5 hI hS ls hl kont
      | 4, _ =>
        refine lv_tableIn (off := 380) (tgt := 424) hx hb dL_law_44 (by decide +kernel) (by decide +kernel) (by decide +kernel) (by decide) ?_
        exact lc_station hF (by omega) (by omega) h5 hI hS ls hl kont
      | 5, _ =>
        refine lv_tableIn (off := 448) (tgt := 492) hx hb dL_law_44 (by decide +kernel) (by decide +kernel) (by decide +kernel) (by decide) ?_
        exact lc_clock hF (by omega) (by omega) h5 hI hS ls hl kont
      | 6, _ =>
        refine lv_tableIn (off := 516) (tgt := 560) hx hb dL_law_44 (by decide +kernel) (by decide +kernel) (by decide +kernel) (by decide) ?_
        exact lc_addHalo hF (by omega) (by omega) h5 hI hS ls hl kont
      | 7, _ =>
        refine lv_tableIn (off := 608) (tgt := 652) hx hb dL_law_44 (by decide +kernel) (by decide +kernel) (by decide +kernel) (by decide) ?_
        exact lc_comes hF (by omega) (by omega) h5 hI hS ls hl kont
      | 8, _ =>
        refine lv_tableIn (off := 676) (tgt := 720) hx hb dL_law_44 (by decide +kernel) (by decide +kernel) (by decide +kernel) (by decide) ?_
        exact lc_reading hF (by omega) (by omega) h5 hI hS ls hl kont
      | 9, _ =>
        refine lv_tableIn (off := 744) (tgt := 788) hx hb dL_law_44 (by decide +kernel) (by decide +kernel) (by decide +kernel) (by decide) ?_
        exact lc_order hF (by omega) (by omega) h5 hI hS ls hl kont
      | 10, _ =>
        refine lv_tableIn (off := 812) (tgt := 856) hx hb dL_law_44 (by decide +kernel) (by decide +kernel) (by decide +kernel) (by decide) ?_
        exact lc_halo hF (by omega) (by omega) h5 hI hS ls hl kont
      | 11, _ =>
        refine lv_tableIn (off := 880) (tgt := 924) hx hb dL_law_44 (by decide +kernel) (by decide +kernel) (by decide +kernel) (by decide) ?_
        exact lc_guess hF (by omega) (by omega) h5 hI hS ls hl kont
      | 12, _ =>
        refine lv_tableIn (off := 948) (tgt := 992) hx hb dL_law_44 (by decide +kernel) (by decide +kernel) (by decide +kernel) (by decide) ?_
        exact lc_blame hF (by omega) (by omega) h5 hI hS ls hl kont
      | 13, _ =>
        refine lv_tableIn (off := 1004) (tgt := 1048) hx hb dL_law_44 (by decide +kernel) (by decide +kernel) (by decide +kernel) (by decide) ?_
        exact lc_advise hF (by omega) (by omega) h5 hI hS ls hl kont
      | 14, _ =>
        refine lv_tableIn (off := 1060) (tgt := 1104) hx hb dL_law_44 (by decide +kernel) (by decide +kernel) (by decide +kernel) (by decide) ?_
        exact lc_wire hF (by omega) (by omega) h5 hI hS ls hl kont
      | 15, _ =>
        refine lv_tableIn (off := 1140) (tgt := 1184) hx hb dL_law_44 (by decide +kernel) (by decide +kernel) (by decide +kernel) (by decide) ?_
        exact lc_align hF (by omega) (by omega) h5 hI hS ls hl kont
      | 16, _ =>
        refine lv_tableIn (off := 1208) (tgt := 1252) hx hb dL_law_44 (by decide +kernel) (by decide +kernel) (by decide +kernel) (by decide) ?_
        exact lc_spread hF (by omega) (by omega) h5 hI hS ls hl kont
      | 17, _ =>
        refine lv_tableIn (off := 1264) (tgt := 1308) hx hb dL_law_44 (by decide +kernel) (by decide +kernel) (by decide +kernel) (by decide) ?_
        exact lc_count hF (by omega) (by omega) h5 hI hS ls hl kont
      | 18, _ =>
        refine lv_tableIn (off := 1320) (tgt := 1364) hx hb dL_law_44 (by decide +kernel) (by decide +kernel) (by decide +kernel) (by decide) ?_
        exact lc_error hF (by omega) (by omega) h5 hI hS ls hl kont
      | 19, _ =>
        refine lv_tableIn (off := 1397) (tgt := 1441) hx hb dL_law_44 (by decide +kernel) (by decide +kernel) (by decide +kernel) (by decide) ?_
        exact lc_digest hF (by omega) (by omega) h5 hI hS ls hl kont
      | t + 20, ht =>
        refine lv_tableOut (tgt := 1455) hx hb dL_law_44 (Or.inr (by rw [nI_toInt (by omega)]; omega)) (by decide) ?_
        refine W.widen (k := 20 + 8 * j + 8) (n := 568 + 100 * j + 100) (by omega) (by omega) ?_
        exact kont H locs ls hI hS hl
