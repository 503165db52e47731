theorem frB_no {L : Nat → Int32} {p : Int32} {k : Nat} (h : gL L k 0 = p) : ∀ n, k < n → frB L p n = false := by
  intro n
  induction n with
  | zero => intro hk; omega
  | succ n ih =>
    intro hk
    show (frB L p n && !decide (gL L n 0 = p)) = false
    rcases Nat.lt_or_ge k n with e | e
    · rw [ih e]; rfl
    · have e2 : k = n := by omega
      rw [← e2, decide_eq_true h]; exact Bool.and_false _
theorem cnt_filter (f : Nat → Bool) : ∀ n, cnt f n = ((List.range n).filter f).length := by
  intro n
  induction n with
  | zero => rfl
  | succ n ih =>
    rw [List.range_succ, List.filter_append, List.length_append]
    show cnt f n + (f n).toNat = _
    rw [ih]
    congr 1
    cases h : f n <;> simp [h]
theorem IsOrd.perm {P : Nat → Int32} {n : Nat} {o : List Nat} (h : IsOrd P n o) : o.Perm (List.range n) := by
  have hd : o.Nodup := h.1.imp (fun {a b} g e => by subst e; exact Int32.lt_irrefl g)
  rw [List.perm_ext_iff_of_nodup hd List.nodup_range]
  intro a
  rw [h.2.1 a, List.mem_range]
theorem cnt_sq {L T : Nat → Int32} {P : Nat → Int32} {n j : Nat} {o : List Nat} (h : IsOrd P n o) : cnt (fun s => see L T j s) n = (sqL L T o j).length := by
  rw [cnt_filter]
  exact ((h.perm.filter _).length_eq).symm
abbrev rmX3_outside : Room := { frames := 0, cells := 0, slots := 0, locals := 0 }
theorem qdX3_outside : yX3_outside.cls = RX3 ∧ yX3_outside.cls ≠ "java/lang/invoke/MethodHandle" ∧ yX3_outside.cls ≠ "java/lang/invoke/VarHandle" ∧ (parseMethodDescriptor yX3_outside.desc).map (fun d => d.parameters.length) = some 3 := by decide +kernel
set_option maxHeartbeats 4000000 in
set_option maxRecDepth 100000 in
theorem c_X3_outside {l : Launch} {G : gT} {H : Heap} {x lo hi : Int32} : Rd G l yX3_outside wsX3_outside rmX3_outside [.int x, .int lo, .int hi] H (.int (bI (!inR lo hi x))) := by
  refine x_head (bytes := cX3_outside) (maxL := 3) (ret := (some .boolean)) (by decide) rfl (Nat.le_of_ble_eq_true rfl) ?_
  intro p e s m below meth c ls hx hb hml hown hts hr hlk hnm hK hs0 hl Q hQ
  have hl : lv_has ls 3 [(0, .int x), (1, .int lo), (2, .int hi)] := hl
  have hC : CallFix p m c cX3_outside 3 s [.int x, .int lo, .int hi].toArray wsX3_outside RX3 := ⟨hx, hb, hml, hown, hts⟩
  refine lv_iload_n hx hb dX3_outside_0 rfl (lv_at hl 0 rfl) ?_
  refine lv_iload_n hx hb dX3_outside_1 rfl (lv_at hl 1 rfl) ?_
  refine lv_icmp_lt (tgt := 10) hx hb dX3_outside_2 (by decide) (fun c_1 => ?_) (fun c_1 => ?_)
  · refine lv_iconst (v := nI 1) hx hb dX3_outside_10 (by decide +kernel) ?_
    refine lv_goto (tgt := 15) hx hb dX3_outside_11 (by decide) ?_
    exact x_rdi hQ hx hb hr (by decide) hlk (congrArg Value.int (bI_o (by rw [inR, decide_eq_true c_1]; rfl))) dX3_outside_15
  · refine lv_iload_n hx hb dX3_outside_5 rfl (lv_at hl 0 rfl) ?_
    refine lv_iload_n hx hb dX3_outside_6 rfl (lv_at hl 2 rfl) ?_
    refine lv_icmp_le (tgt := 14) hx hb dX3_outside_7 (by decide) (fun c_2 => ?_) (fun c_2 => ?_)
    · refine lv_iconst (v := nI 0) hx hb dX3_outside_14 (by decide +kernel) ?_
      exact x_rdi hQ hx hb hr (by decide) hlk (congrArg Value.int (bI_z (by rw [inR, decide_eq_false c_1, decide_eq_false (Int32.not_lt.mpr c_2)]; rfl))) dX3_outside_15
    · refine lv_iconst (v := nI 1) hx hb dX3_outside_10 (by decide +kernel) ?_
      refine lv_goto (tgt := 15) hx hb dX3_outside_11 (by decide) ?_
      exact x_rdi hQ hx hb hr (by decide) hlk (congrArg Value.int (bI_o (by rw [inR, decide_eq_false c_1, decide_eq_true (Int32.not_le.mp c_2)]; rfl))) dX3_outside_15
abbrev rmX3_noStation : Room := { frames := 1, cells := 0, slots := 0, locals := 22 }
theorem qdX3_noStation : yX3_noStation.cls = RX3 ∧ yX3_noStation.cls ≠ "java/lang/invoke/MethodHandle" ∧ yX3_noStation.cls ≠ "java/lang/invoke/VarHandle" ∧ (parseMethodDescriptor yX3_noStation.desc).map (fun d => d.parameters.length) = some 1 := by decide +kernel
set_option maxHeartbeats 4000000 in
set_option maxRecDepth 100000 in
theorem c_X3_noStation {l : Launch} {G : gT} {H : Heap} {ro : Nat → Prop} {n hn : Nat} {L T : Nat → Int32} {o : List Nat} {sa fa ta ha : Nat → Nat} {F U : Nat → Nat → Int32} {aS aB aH xa rb0 ms9 : Nat} (hxo : pt G xa (.inr (3, [.ref aS, .ref aB, .ref aH, .ref rb0, .ref ms9])) H) (hcr : crO G ro n hn L T o sa fa ta ha F U aS aB aH H) (hg : OK n hn L T) {x : Int32} : Rd G l yX3_noStation wsX3_noStation rmX3_noStation [.ref xa, .int x] H (.int (bI (!vS n x))) := by
  refine x_head (bytes := cX3_noStation) (maxL := 2) (ret := (some .boolean)) (by decide) rfl (Nat.le_of_ble_eq_true rfl) ?_
  intro p e s m below meth c ls hx hb hml hown hts hr hlk hnm hK hs0 hl Q hQ
  have hl : lv_has ls 2 [(0, .ref xa), (1, .int x)] := hl
  have hC : CallFix p m c cX3_noStation 2 s [.ref xa, .int x].toArray wsX3_noStation RX3 := ⟨hx, hb, hml, hown, hts⟩
  have k_f12 := hts (.fieldLink RX3 12 "SundogLine" "stations" "Ljava/util/ArrayList;") (by decide +kernel)
  have in_X3 : ∀ w ∈ u_ws RX3 TX3 5, w ∈ wsX3_noStation := by decide +kernel
  have hn12 := hg.n
  have hh16 := hg.hn
  refine lv_iload_n hx hb dX3_noStation_0 rfl (lv_at hl 1 rfl) ?_
  refine lv_iconst (v := nI 0) hx hb dX3_noStation_1 (by decide +kernel) ?_
  refine lv_aload_n hx hb dX3_noStation_2 rfl (lv_at hl 0 rfl) ?_
  refine x_get (T := TX3) (N := 5) (v := .ref aS) hx hb hts in_X3 hown hK (hxo) rfl 0 (by decide) k_f12 (fun _ h9 => h9) (rfl) dX3_noStation_3 ?_
  refine x_rd (va_runV (As := []) (rest := [.int (nI 0), .int x]) hC (c_size (hcr.lS)) (cwV 0 hts gX3_noStation_Jx4a65c_size_8abf5 rfl rfl rfl qdJx4a65c_size_8abf5 ⟨Nat.le_of_ble_eq_true rfl, Nat.le_of_ble_eq_true rfl⟩) (x_preV hK (alR_recv hK (hcr.lS))) rfl rfl hl.1 rfl (lv_room (Nat.le_of_ble_eq_true rfl)) dX3_noStation_6 ⟨Nat.le_of_ble_eq_true rfl, Nat.le_of_ble_eq_true rfl⟩) ?_
  refine lv_iconst (v := nI 1) hx hb dX3_noStation_9 (by decide +kernel) ?_
  refine lv_isub hx hb dX3_noStation_10 ?_
  refine x_rd (va_runS (As := [.int x, .int (nI 0), .int ((nI n) - (nI 1))]) (rest := []) hC (c_X3_outside) (cwS 3 hts gX3_noStation_X3_outside rfl rfl rfl qdX3_outside ⟨Nat.le_of_ble_eq_true rfl, Nat.le_of_ble_eq_true rfl⟩) (x_preS hK) rfl rfl hl.1 rfl (lv_room (Nat.le_of_ble_eq_true rfl)) dX3_noStation_11 ⟨Nat.le_of_ble_eq_true rfl, Nat.le_of_ble_eq_true rfl⟩) ?_
  exact x_rdi hQ hx hb hr (nbI _) hlk rfl dX3_noStation_14
abbrev rmX3_noHalo : Room := { frames := 1, cells := 0, slots := 0, locals := 22 }
theorem qdX3_noHalo : yX3_noHalo.cls = RX3 ∧ yX3_noHalo.cls ≠ "java/lang/invoke/MethodHandle" ∧ yX3_noHalo.cls ≠ "java/lang/invoke/VarHandle" ∧ (parseMethodDescriptor yX3_noHalo.desc).map (fun d => d.parameters.length) = some 1 := by decide +kernel
set_option maxHeartbeats 4000000 in
set_option maxRecDepth 100000 in
theorem c_X3_noHalo {l : Launch} {G : gT} {H : Heap} {ro : Nat → Prop} {n hn : Nat} {L T : Nat → Int32} {o : List Nat} {sa fa ta ha : Nat → Nat} {F U : Nat → Nat → Int32} {aS aB aH xa rb0 ms9 : Nat} (hxo : pt G xa (.inr (3, [.ref aS, .ref aB, .ref aH, .ref rb0, .ref ms9])) H) (hcr : crO G ro n hn L T o sa fa ta ha F U aS aB aH H) (hg : OK n hn L T) {x : Int32} : Rd G l yX3_noHalo wsX3_noHalo rmX3_noHalo [.ref xa, .int x] H (.int (bI (!vS hn x))) := by
  refine x_head (bytes := cX3_noHalo) (maxL := 2) (ret := (some .boolean)) (by decide) rfl (Nat.le_of_ble_eq_true rfl) ?_
  intro p e s m below meth c ls hx hb hml hown hts hr hlk hnm hK hs0 hl Q hQ
  have hl : lv_has ls 2 [(0, .ref xa), (1, .int x)] := hl
  have hC : CallFix p m c cX3_noHalo 2 s [.ref xa, .int x].toArray wsX3_noHalo RX3 := ⟨hx, hb, hml, hown, hts⟩
  have k_f19 := hts (.fieldLink RX3 19 "SundogLine" "halos" "Ljava/util/ArrayList;") (by decide +kernel)
  have in_X3 : ∀ w ∈ u_ws RX3 TX3 5, w ∈ wsX3_noHalo := by decide +kernel
  have hn12 := hg.n
  have hh16 := hg.hn
  refine lv_iload_n hx hb dX3_noHalo_0 rfl (lv_at hl 1 rfl) ?_
  refine lv_iconst (v := nI 0) hx hb dX3_noHalo_1 (by decide +kernel) ?_
  refine lv_aload_n hx hb dX3_noHalo_2 rfl (lv_at hl 0 rfl) ?_
  refine x_get (T := TX3) (N := 5) (v := .ref aH) hx hb hts in_X3 hown hK (hxo) rfl 2 (by decide) k_f19 (fun _ h9 => h9) (rfl) dX3_noHalo_3 ?_
  refine x_rd (va_runV (As := []) (rest := [.int (nI 0), .int x]) hC (c_size (hcr.lH)) (cwV 0 hts gX3_noHalo_Jx4a65c_size_8abf5 rfl rfl rfl qdJx4a65c_size_8abf5 ⟨Nat.le_of_ble_eq_true rfl, Nat.le_of_ble_eq_true rfl⟩) (x_preV hK (alR_recv hK (hcr.lH))) rfl rfl hl.1 rfl (lv_room (Nat.le_of_ble_eq_true rfl)) dX3_noHalo_6 ⟨Nat.le_of_ble_eq_true rfl, Nat.le_of_ble_eq_true rfl⟩) ?_
  refine lv_iconst (v := nI 1) hx hb dX3_noHalo_9 (by decide +kernel) ?_
  refine lv_isub hx hb dX3_noHalo_10 ?_
  refine x_rd (va_runS (As := [.int x, .int (nI 0), .int ((nI hn) - (nI 1))]) (rest := []) hC (c_X3_outside) (cwS 3 hts gX3_noHalo_X3_outside rfl rfl rfl qdX3_outside ⟨Nat.le_of_ble_eq_true rfl, Nat.le_of_ble_eq_true rfl⟩) (x_preS hK) rfl rfl hl.1 rfl (lv_room (Nat.le_of_ble_eq_true rfl)) dX3_noHalo_11 ⟨Nat.le_of_ble_eq_true rfl, Nat.le_of_ble_eq_true rfl⟩) ?_
  exact x_rdi hQ hx hb hr (nbI _) hlk rfl dX3_noHalo_14
abbrev rmX3_isTaken : Room := { frames := 3, cells := 0, slots := 0, locals := 64 }
theorem qdX3_isTaken : yX3_isTaken.cls = RX3 ∧ yX3_isTaken.cls ≠ "java/lang/invoke/MethodHandle" ∧ yX3_isTaken.cls ≠ "java/lang/invoke/VarHandle" ∧ (parseMethodDescriptor yX3_isTaken.desc).map (fun d => d.parameters.length) = some 1 := by decide +kernel
set_option maxHeartbeats 4000000 in
set_option maxRecDepth 100000 in
theorem c_X3_isTaken {l : Launch} {G : gT} {H : Heap} {ro : Nat → Prop} {n hn : Nat} {L T : Nat → Int32} {o : List Nat} {sa fa ta ha : Nat → Nat} {F U : Nat → Nat → Int32} {aS aB aH xa rb0 ms9 : Nat} (hxo : pt G xa (.inr (3, [.ref aS, .ref aB, .ref aH, .ref rb0, .ref ms9])) H) (hcr : crO G ro n hn L T o sa fa ta ha F U aS aB aH H) (hg : OK n hn L T) {x : Int32} : Rd G l yX3_isTaken wsX3_isTaken rmX3_isTaken [.ref xa, .int x] H (.int (bI (!frB L x n))) := by
  refine x_head (bytes := cX3_isTaken) (maxL := 3) (ret := (some .boolean)) (by decide) rfl (Nat.le_of_ble_eq_true rfl) ?_
  intro p e s m below meth c ls hx hb hml hown hts hr hlk hnm hK hs0 hl Q hQ
  have hl : lv_has ls 3 [(0, .ref xa), (1, .int x)] := hl
  have hC : CallFix p m c cX3_isTaken 3 s [.ref xa, .int x].toArray wsX3_isTaken RX3 := ⟨hx, hb, hml, hown, hts⟩
  have k_f12 := hts (.fieldLink RX3 12 "SundogLine" "stations" "Ljava/util/ArrayList;") (by decide +kernel)
  have in_X3 : ∀ w ∈ u_ws RX3 TX3 5, w ∈ wsX3_isTaken := by decide +kernel
  have k_cl51 := hts (.classLink RX3 51 "SundogLine$Station") (by decide +kernel)
  have k_f108 := hts (.fieldLink RX3 108 "SundogLine$Station" "place" "I") (by decide +kernel)
  have in_X2 : ∀ w ∈ u_ws RX2 TX2 8, w ∈ wsX3_isTaken := by decide +kernel
  have hn12 := hg.n
  have hh16 := hg.hn
  refine lv_iconst (v := nI 0) hx hb dX3_isTaken_0 (by decide +kernel) ?_
  refine lv_istore_n (lv' := [(2, .int (nI 0)), (0, .ref xa), (1, .int x)]) hx hb dX3_isTaken_1 rfl hl (by decide) rfl (fun ls hl => ?_)
  have loop_1 : ∀ (fu : Nat) (k : Nat)  (ls : Array Slot), n - k < fu → (k ≤ n) → (frB L x k = true) → lv_has ls 3 [(0, .ref xa), (1, .int x), (2, .int (nI k))] → W p l e rmX3_isTaken s m [.ref xa, .int x].toArray below meth c H [] 0 0 Q (F0 m 2 ls []) := by
    intro fu
    induction fu with
    | zero => intro k ls hms hk hf hl; exact absurd hms (Nat.not_lt_zero _)
    | succ fu ih_1 =>
      intro k ls hms hk hf hl
      refine lv_iload_n hx hb dX3_isTaken_2 rfl (lv_at hl 2 rfl) ?_
      refine lv_aload_n hx hb dX3_isTaken_3 rfl (lv_at hl 0 rfl) ?_
      refine x_get (T := TX3) (N := 5) (v := .ref aS) hx hb hts in_X3 hown hK (hxo) rfl 0 (by decide) k_f12 (fun _ h9 => h9) (rfl) dX3_isTaken_4 ?_
      refine x_rd (va_runV (As := []) (rest := [.int (nI k)]) hC (c_size (hcr.lS)) (cwV 0 hts gX3_isTaken_Jx4a65c_size_8abf5 rfl rfl rfl qdJx4a65c_size_8abf5 ⟨Nat.le_of_ble_eq_true rfl, Nat.le_of_ble_eq_true rfl⟩) (x_preV hK (alR_recv hK (hcr.lS))) rfl rfl hl.1 rfl (lv_room (Nat.le_of_ble_eq_true rfl)) dX3_isTaken_7 ⟨Nat.le_of_ble_eq_true rfl, Nat.le_of_ble_eq_true rfl⟩) ?_
      refine x_icmp_ge (tgt := 39) hx hb (by omega) (by omega) dX3_isTaken_10 (by decide) (fun c_2 => ?_) (fun c_2 => ?_)
      · refine lv_iconst (v := nI 0) hx hb dX3_isTaken_39 (by decide +kernel) ?_
        exact x_rdi hQ hx hb hr (by decide) hlk (congrArg Value.int (bI_z (by rw [show k = n by omega] at hf; rw [hf]; rfl))) dX3_isTaken_40
      · refine lv_aload_n hx hb dX3_isTaken_13 rfl (lv_at hl 0 rfl) ?_
        refine x_get (T := TX3) (N := 5) (v := .ref aS) hx hb hts in_X3 hown hK (hxo) rfl 0 (by decide) k_f12 (fun _ h9 => h9) (rfl) dX3_isTaken_14 ?_
        refine lv_iload_n hx hb dX3_isTaken_17 rfl (lv_at hl 2 rfl) ?_
        refine x_rd (va_runV (As := [.int (nI k)]) (rest := []) hC (c_get (hcr.lS) (by omega)) (cwV 1 hts gX3_isTaken_Jx4a65c_get_915e3 rfl rfl rfl qdJx4a65c_get_915e3 ⟨Nat.le_of_ble_eq_true rfl, Nat.le_of_ble_eq_true rfl⟩) (x_preV hK (alR_recv hK (hcr.lS))) rfl rfl hl.1 rfl (lv_room (Nat.le_of_ble_eq_true rfl)) dX3_isTaken_18 ⟨Nat.le_of_ble_eq_true rfl, Nat.le_of_ble_eq_true rfl⟩) ?_
        refine x_cast hx hb hown k_cl51 hK ((hcr.st (show k < n by omega)).1) rfl dX3_isTaken_21 ?_
        refine x_get (T := TX2) (N := 8) (v := .int (gL L k 0)) hx hb hts in_X2 hown hK ((hcr.st (show k < n by omega)).1) rfl 1 (by decide) k_f108 (fun _ h9 => h9) (rfl) dX3_isTaken_24 ?_
        refine lv_iload_n hx hb dX3_isTaken_27 rfl (lv_at hl 1 rfl) ?_
        refine lv_icmp_ne (tgt := 33) hx hb dX3_isTaken_28 (by decide) (fun c_3 => ?_) (fun c_3 => ?_)
        · refine lv_iinc (v := nI (k + 1)) (lv' := [(2, .int (nI (k + 1))), (0, .ref xa), (1, .int x)]) hx hb dX3_isTaken_33 hl (k := 2) rfl (nI_incn _) (by decide) rfl (fun ls hl => ?_)
          refine lv_goto (tgt := 2) hx hb dX3_isTaken_36 (by decide) ?_
          exact ih_1 (k + 1) ls (by omega) (by omega) (by show (frB L x k && !decide (gL L k 0 = x)) = true; rw [hf, decide_eq_false c_3]; rfl) (lv_sub hl [1, 2, 0] rfl)
        · refine lv_iconst (v := nI 1) hx hb dX3_isTaken_31 (by decide +kernel) ?_
          exact x_rdi hQ hx hb hr (by decide) hlk (congrArg Value.int (bI_o (by rw [frB_no (k := k) c_3 n (by omega)]; rfl))) dX3_isTaken_32
  exact loop_1 _ 0 ls (Nat.lt_succ_self _) (Nat.zero_le _) (rfl) (lv_sub hl [1, 2, 0] rfl)
abbrev rmX3_stationsBefore : Room := { frames := 3, cells := 0, slots := 0, locals := 64 }
theorem qdX3_stationsBefore : yX3_stationsBefore.cls = RX3 ∧ yX3_stationsBefore.cls ≠ "java/lang/invoke/MethodHandle" ∧ yX3_stationsBefore.cls ≠ "java/lang/invoke/VarHandle" ∧ (parseMethodDescriptor yX3_stationsBefore.desc).map (fun d => d.parameters.length) = some 1 := by decide +kernel
set_option maxHeartbeats 4000000 in
set_option maxRecDepth 100000 in
theorem c_X3_stationsBefore {l : Launch} {G : gT} {H : Heap} {ro : Nat → Prop} {n hn : Nat} {L T : Nat → Int32} {o : List Nat} {sa fa ta ha : Nat → Nat} {F U : Nat → Nat → Int32} {aS aB aH xa rb0 ms9 : Nat} (hxo : pt G xa (.inr (3, [.ref aS, .ref aB, .ref aH, .ref rb0, .ref ms9])) H) (hcr : crO G ro n hn L T o sa fa ta ha F U aS aB aH H) (hg : OK n hn L T) (ho : IsOrd (fun s => gL L s 0) n o) {x : Int32} : Rd G l yX3_stationsBefore wsX3_stationsBefore rmX3_stationsBefore [.ref xa, .int x] H (.int (nI (cnt (fun k => decide (gL L (o.getD k 0) 0 < x)) n))) := by
  refine x_head (bytes := cX3_stationsBefore) (maxL := 4) (ret := (some .int)) (by decide) rfl (Nat.le_of_ble_eq_true rfl) ?_
  intro p e s m below meth c ls hx hb hml hown hts hr hlk hnm hK hs0 hl Q hQ
  have hl : lv_has ls 4 [(0, .ref xa), (1, .int x)] := hl
  have hC : CallFix p m c cX3_stationsBefore 4 s [.ref xa, .int x].toArray wsX3_stationsBefore RX3 := ⟨hx, hb, hml, hown, hts⟩
  have k_f16 := hts (.fieldLink RX3 16 "SundogLine" "byPlace" "Ljava/util/ArrayList;") (by decide +kernel)
  have in_X3 : ∀ w ∈ u_ws RX3 TX3 5, w ∈ wsX3_stationsBefore := by decide +kernel
  have k_cl51 := hts (.classLink RX3 51 "SundogLine$Station") (by decide +kernel)
  have k_f108 := hts (.fieldLink RX3 108 "SundogLine$Station" "place" "I") (by decide +kernel)
  have in_X2 : ∀ w ∈ u_ws RX2 TX2 8, w ∈ wsX3_stationsBefore := by decide +kernel
  have hn12 := hg.n
  have hh16 := hg.hn
  refine lv_iconst (v := nI 0) hx hb dX3_stationsBefore_0 (by decide +kernel) ?_
  refine lv_istore_n (lv' := [(2, .int (nI 0)), (0, .ref xa), (1, .int x)]) hx hb dX3_stationsBefore_1 rfl hl (by decide) rfl (fun ls hl => ?_)
  refine lv_iconst (v := nI 0) hx hb dX3_stationsBefore_2 (by decide +kernel) ?_
  refine lv_istore_n (lv' := [(3, .int (nI 0)), (2, .int (nI 0)), (0, .ref xa), (1, .int x)]) hx hb dX3_stationsBefore_3 rfl hl (by decide) rfl (fun ls hl => ?_)
  have loop_1 : ∀ (fu : Nat) (k : Nat)  (ls : Array Slot), n - k < fu → (k ≤ n) → lv_has ls 4 [(0, .ref xa), (1, .int x), (2, .int (nI (cnt (fun k => decide (gL L (o.getD k 0) 0 < x)) k))), (3, .int (nI k))] → W p l e rmX3_stationsBefore s m [.ref xa, .int x].toArray below meth c H [] 0 0 Q (F0 m 4 ls []) := by
    intro fu
    induction fu with
    | zero => intro k ls hms hk hl; exact absurd hms (Nat.not_lt_zero _)
    | succ fu ih_1 =>
      intro k ls hms hk hl
      refine lv_iload_n hx hb dX3_stationsBefore_4 rfl (lv_at hl 3 rfl) ?_
      refine lv_aload_n hx hb dX3_stationsBefore_5 rfl (lv_at hl 0 rfl) ?_
      refine x_get (T := TX3) (N := 5) (v := .ref aB) hx hb hts in_X3 hown hK (hxo) rfl 1 (by decide) k_f16 (fun _ h9 => h9) (rfl) dX3_stationsBefore_6 ?_
      refine x_rd (va_runV (As := []) (rest := [.int (nI k)]) hC (c_size (hcr.lB)) (cwV 0 hts gX3_stationsBefore_Jx4a65c_size_8abf5 rfl rfl rfl qdJx4a65c_size_8abf5 ⟨Nat.le_of_ble_eq_true rfl, Nat.le_of_ble_eq_true rfl⟩) (x_preV hK (alR_recv hK (hcr.lB))) rfl rfl hl.1 rfl (lv_room (Nat.le_of_ble_eq_true rfl)) dX3_stationsBefore_9 ⟨Nat.le_of_ble_eq_true rfl, Nat.le_of_ble_eq_true rfl⟩) ?_
      refine x_icmp_ge (tgt := 42) hx hb (by omega) (by omega) dX3_stationsBefore_12 (by decide) (fun c_2 => ?_) (fun c_2 => ?_)
      · refine lv_iload_n hx hb dX3_stationsBefore_42 rfl (lv_at hl 2 rfl) ?_
        exact x_rdi hQ hx hb hr rfl hlk (by rw [show k = n by omega]) dX3_stationsBefore_43
      · refine lv_aload_n hx hb dX3_stationsBefore_15 rfl (lv_at hl 0 rfl) ?_
        refine x_get (T := TX3) (N := 5) (v := .ref aB) hx hb hts in_X3 hown hK (hxo) rfl 1 (by decide) k_f16 (fun _ h9 => h9) (rfl) dX3_stationsBefore_16 ?_
        refine lv_iload_n hx hb dX3_stationsBefore_19 rfl (lv_at hl 3 rfl) ?_
        refine x_rd (va_runV (As := [.int (nI k)]) (rest := []) hC (c_get (hcr.lB) (by omega)) (cwV 1 hts gX3_stationsBefore_Jx4a65c_get_915e3 rfl rfl rfl qdJx4a65c_get_915e3 ⟨Nat.le_of_ble_eq_true rfl, Nat.le_of_ble_eq_true rfl⟩) (x_preV hK (alR_recv hK (hcr.lB))) rfl rfl hl.1 rfl (lv_room (Nat.le_of_ble_eq_true rfl)) dX3_stationsBefore_20 ⟨Nat.le_of_ble_eq_true rfl, Nat.le_of_ble_eq_true rfl⟩) ?_
        have hok := (ho.gt (show k < n by omega)).2
        refine x_cast hx hb hown k_cl51 hK ((hcr.st (show (o.getD k 0) < n by omega)).1) rfl dX3_stationsBefore_23 ?_
        refine x_get (T := TX2) (N := 8) (v := .int (gL L (o.getD k 0) 0)) hx hb hts in_X2 hown hK ((hcr.st (show (o.getD k 0) < n by omega)).1) rfl 1 (by decide) k_f108 (fun _ h9 => h9) (rfl) dX3_stationsBefore_26 ?_
        refine lv_iload_n hx hb dX3_stationsBefore_29 rfl (lv_at hl 1 rfl) ?_
        refine lv_icmp_ge (tgt := 36) hx hb dX3_stationsBefore_30 (by decide) (fun c_3 => ?_) (fun c_3 => ?_)
        · have hl : lv_has ls 4 [(0, .ref xa), (1, .int x), (2, .int (nI (cnt (fun k => decide (gL L (o.getD k 0) 0 < x)) (k + 1)))), (3, .int (nI k))] := by
            have e9 : (cnt (fun k => decide (gL L (o.getD k 0) 0 < x)) (k + 1)) = (cnt (fun k => decide (gL L (o.getD k 0) 0 < x)) k) := by show cnt (fun k => decide (gL L (o.getD k 0) 0 < x)) k + ((fun k => decide (gL L (o.getD k 0) 0 < x)) k).toNat = _; rw [show (fun k => decide (gL L (o.getD k 0) 0 < x)) k = false from decide_eq_false (Int32.not_lt.mpr c_3)]; rfl
            rw [e9]; exact hl
          refine lv_iinc (v := nI (k + 1)) (lv' := [(3, .int (nI (k + 1))), (0, .ref xa), (1, .int x), (2, .int (nI (cnt (fun k => decide (gL L (o.getD k 0) 0 < x)) (k + 1))))]) hx hb dX3_stationsBefore_36 hl (k := 3) rfl (nI_incn _) (by decide) rfl (fun ls hl => ?_)
          refine lv_goto (tgt := 4) hx hb dX3_stationsBefore_39 (by decide) ?_
          exact ih_1 (k + 1) ls (by omega) (by omega) (lv_sub hl [1, 2, 3, 0] rfl)
        · refine lv_iinc (v := nI ((cnt (fun k => decide (gL L (o.getD k 0) 0 < x)) k) + 1)) (lv' := [(2, .int (nI ((cnt (fun k => decide (gL L (o.getD k 0) 0 < x)) k) + 1))), (0, .ref xa), (1, .int x), (3, .int (nI k))]) hx hb dX3_stationsBefore_33 hl (k := 2) rfl (nI_incn _) (by decide) rfl (fun ls hl => ?_)
          have hl : lv_has ls 4 [(2, .int (nI (cnt (fun k => decide (gL L (o.getD k 0) 0 < x)) (k + 1)))), (0, .ref xa), (1, .int x), (3, .int (nI k))] := by
            have e9 : (cnt (fun k => decide (gL L (o.getD k 0) 0 < x)) (k + 1)) = (cnt (fun k => decide (gL L (o.getD k 0) 0 < x)) k) + 1 := by show cnt (fun k => decide (gL L (o.getD k 0) 0 < x)) k + ((fun k => decide (gL L (o.getD k 0) 0 < x)) k).toNat = _; rw [show (fun k => decide (gL L (o.getD k 0) 0 < x)) k = true from decide_eq_true (Int32.not_le.mp c_3)]; rfl
            rw [e9]; exact hl
          refine lv_iinc (v := nI (k + 1)) (lv' := [(3, .int (nI (k + 1))), (2, .int (nI (cnt (fun k => decide (gL L (o.getD k 0) 0 < x)) (k + 1)))), (0, .ref xa), (1, .int x)]) hx hb dX3_stationsBefore_36 hl (k := 3) rfl (nI_incn _) (by decide) rfl (fun ls hl => ?_)
          refine lv_goto (tgt := 4) hx hb dX3_stationsBefore_39 (by decide) ?_
          exact ih_1 (k + 1) ls (by omega) (by omega) (lv_sub hl [2, 3, 1, 0] rfl)
  exact loop_1 _ 0 ls (Nat.lt_succ_self _) (Nat.zero_le _) (lv_sub hl [2, 3, 1, 0] rfl)
abbrev rmX3_halosSeenBy : Room := { frames := 3, cells := 0, slots := 0, locals := 64 }
theorem qdX3_halosSeenBy : yX3_halosSeenBy.cls = RX3 ∧ yX3_halosSeenBy.cls ≠ "java/lang/invoke/MethodHandle" ∧ yX3_halosSeenBy.cls ≠ "java/lang/invoke/VarHandle" ∧ (parseMethodDescriptor yX3_halosSeenBy.desc).map (fun d => d.parameters.length) = some 1 := by decide +kernel
set_option maxHeartbeats 4000000 in
set_option maxRecDepth 100000 in
theorem c_X3_halosSeenBy {l : Launch} {G : gT} {H : Heap} {ro : Nat → Prop} {n hn : Nat} {L T : Nat → Int32} {o : List Nat} {sa fa ta ha : Nat → Nat} {F U : Nat → Nat → Int32} {aS aB aH xa rb0 ms9 : Nat} (hxo : pt G xa (.inr (3, [.ref aS, .ref aB, .ref aH, .ref rb0, .ref ms9])) H) (hcr : crO G ro n hn L T o sa fa ta ha F U aS aB aH H) (hg : OK n hn L T) {i : Nat} (hi : i < n) : Rd G l yX3_halosSeenBy wsX3_halosSeenBy rmX3_halosSeenBy [.ref xa, .ref (sa i)] H (.int (nI (cnt (fun j => see L T j i) hn))) := by
  refine x_head (bytes := cX3_halosSeenBy) (maxL := 4) (ret := (some .int)) (by decide) rfl (Nat.le_of_ble_eq_true rfl) ?_
  intro p e s m below meth c ls hx hb hml hown hts hr hlk hnm hK hs0 hl Q hQ
  have hl : lv_has ls 4 [(0, .ref xa), (1, .ref (sa i))] := hl
  have hC : CallFix p m c cX3_halosSeenBy 4 s [.ref xa, .ref (sa i)].toArray wsX3_halosSeenBy RX3 := ⟨hx, hb, hml, hown, hts⟩
  have k_f19 := hts (.fieldLink RX3 19 "SundogLine" "halos" "Ljava/util/ArrayList;") (by decide +kernel)
  have in_X3 : ∀ w ∈ u_ws RX3 TX3 5, w ∈ wsX3_halosSeenBy := by decide +kernel
  have k_cl102 := hts (.classLink RX3 102 RX0) (by decide +kernel)
  have hn12 := hg.n
  have hh16 := hg.hn
  refine lv_iconst (v := nI 0) hx hb dX3_halosSeenBy_0 (by decide +kernel) ?_
  refine lv_istore_n (lv' := [(2, .int (nI 0)), (0, .ref xa), (1, .ref (sa i))]) hx hb dX3_halosSeenBy_1 rfl hl (by decide) rfl (fun ls hl => ?_)
  refine lv_iconst (v := nI 0) hx hb dX3_halosSeenBy_2 (by decide +kernel) ?_
  refine lv_istore_n (lv' := [(3, .int (nI 0)), (2, .int (nI 0)), (0, .ref xa), (1, .ref (sa i))]) hx hb dX3_halosSeenBy_3 rfl hl (by decide) rfl (fun ls hl => ?_)
  have loop_1 : ∀ (fu : Nat) (k : Nat)  (ls : Array Slot), hn - k < fu → (k ≤ hn) → lv_has ls 4 [(0, .ref xa), (1, .ref (sa i)), (2, .int (nI (cnt (fun j => see L T j i) k))), (3, .int (nI k))] → W p l e rmX3_halosSeenBy s m [.ref xa, .ref (sa i)].toArray below meth c H [] 0 0 Q (F0 m 4 ls []) := by
    intro fu
    induction fu with
    | zero => intro k ls hms hk hl; exact absurd hms (Nat.not_lt_zero _)
    | succ fu ih_1 =>
      intro k ls hms hk hl
      refine lv_iload_n hx hb dX3_halosSeenBy_4 rfl (lv_at hl 3 rfl) ?_
      refine lv_aload_n hx hb dX3_halosSeenBy_5 rfl (lv_at hl 0 rfl) ?_
      refine x_get (T := TX3) (N := 5) (v := .ref aH) hx hb hts in_X3 hown hK (hxo) rfl 2 (by decide) k_f19 (fun _ h9 => h9) (rfl) dX3_halosSeenBy_6 ?_
      refine x_rd (va_runV (As := []) (rest := [.int (nI k)]) hC (c_size (hcr.lH)) (cwV 0 hts gX3_halosSeenBy_Jx4a65c_size_8abf5 rfl rfl rfl qdJx4a65c_size_8abf5 ⟨Nat.le_of_ble_eq_true rfl, Nat.le_of_ble_eq_true rfl⟩) (x_preV hK (alR_recv hK (hcr.lH))) rfl rfl hl.1 rfl (lv_room (Nat.le_of_ble_eq_true rfl)) dX3_halosSeenBy_9 ⟨Nat.le_of_ble_eq_true rfl, Nat.le_of_ble_eq_true rfl⟩) ?_
      refine x_icmp_ge (tgt := 42) hx hb (by omega) (by omega) dX3_halosSeenBy_12 (by decide) (fun c_2 => ?_) (fun c_2 => ?_)
      · refine lv_iload_n hx hb dX3_halosSeenBy_42 rfl (lv_at hl 2 rfl) ?_
        exact x_rdi hQ hx hb hr rfl hlk (by rw [show k = hn by omega]) dX3_halosSeenBy_43
      · refine lv_aload_n hx hb dX3_halosSeenBy_15 rfl (lv_at hl 1 rfl) ?_
        refine lv_aload_n hx hb dX3_halosSeenBy_16 rfl (lv_at hl 0 rfl) ?_
        refine x_get (T := TX3) (N := 5) (v := .ref aH) hx hb hts in_X3 hown hK (hxo) rfl 2 (by decide) k_f19 (fun _ h9 => h9) (rfl) dX3_halosSeenBy_17 ?_
        refine lv_iload_n hx hb dX3_halosSeenBy_20 rfl (lv_at hl 3 rfl) ?_
        refine x_rd (va_runV (As := [.int (nI k)]) (rest := [.ref (sa i)]) hC (c_get (hcr.lH) (by omega)) (cwV 1 hts gX3_halosSeenBy_Jx4a65c_get_915e3 rfl rfl rfl qdJx4a65c_get_915e3 ⟨Nat.le_of_ble_eq_true rfl, Nat.le_of_ble_eq_true rfl⟩) (x_preV hK (alR_recv hK (hcr.lH))) rfl rfl hl.1 rfl (lv_room (Nat.le_of_ble_eq_true rfl)) dX3_halosSeenBy_21 ⟨Nat.le_of_ble_eq_true rfl, Nat.le_of_ble_eq_true rfl⟩) ?_
        refine x_cast hx hb hown k_cl102 hK (hcr.hal (show k < hn by omega)) rfl dX3_halosSeenBy_24 ?_
        refine x_rd (va_runV (As := [.ref (ha k)]) (rest := []) hC (c_X2_sees (hcr.st (show i < n by omega)) (hcr.hal (show k < hn by omega)) (hg.2.1 _ (show i < n by omega)) (hg.2.2.1 _ (show k < hn by omega))) (cwV 1 hts gX3_halosSeenBy_X2_sees rfl rfl rfl qdX2_sees ⟨Nat.le_of_ble_eq_true rfl, Nat.le_of_ble_eq_true rfl⟩) (x_preV hK (x_recv hK ((hcr.st (show i < n by omega)).1) rfl)) rfl rfl hl.1 rfl (lv_room (Nat.le_of_ble_eq_true rfl)) dX3_halosSeenBy_27 ⟨Nat.le_of_ble_eq_true rfl, Nat.le_of_ble_eq_true rfl⟩) ?_
        refine x_if_eqB (tgt := 36) hx hb dX3_halosSeenBy_30 (by decide) (fun c_3 => ?_) (fun c_3 => ?_)
        · have hl : lv_has ls 4 [(0, .ref xa), (1, .ref (sa i)), (2, .int (nI (cnt (fun j => see L T j i) (k + 1)))), (3, .int (nI k))] := by
            have e9 : (cnt (fun j => see L T j i) (k + 1)) = (cnt (fun j => see L T j i) k) := by show cnt (fun j => see L T j i) k + ((fun j => see L T j i) k).toNat = _; rw [show (fun j => see L T j i) k = false from c_3]; rfl
            rw [e9]; exact hl
          refine lv_iinc (v := nI (k + 1)) (lv' := [(3, .int (nI (k + 1))), (0, .ref xa), (1, .ref (sa i)), (2, .int (nI (cnt (fun j => see L T j i) (k + 1))))]) hx hb dX3_halosSeenBy_36 hl (k := 3) rfl (nI_incn _) (by decide) rfl (fun ls hl => ?_)
          refine lv_goto (tgt := 4) hx hb dX3_halosSeenBy_39 (by decide) ?_
          exact ih_1 (k + 1) ls (by omega) (by omega) (lv_sub hl [1, 2, 3, 0] rfl)
        · refine lv_iinc (v := nI ((cnt (fun j => see L T j i) k) + 1)) (lv' := [(2, .int (nI ((cnt (fun j => see L T j i) k) + 1))), (0, .ref xa), (1, .ref (sa i)), (3, .int (nI k))]) hx hb dX3_halosSeenBy_33 hl (k := 2) rfl (nI_incn _) (by decide) rfl (fun ls hl => ?_)
          have hl : lv_has ls 4 [(2, .int (nI (cnt (fun j => see L T j i) (k + 1)))), (0, .ref xa), (1, .ref (sa i)), (3, .int (nI k))] := by
            have e9 : (cnt (fun j => see L T j i) (k + 1)) = (cnt (fun j => see L T j i) k) + 1 := by show cnt (fun j => see L T j i) k + ((fun j => see L T j i) k).toNat = _; rw [show (fun j => see L T j i) k = true from c_3]; rfl
            rw [e9]; exact hl
          refine lv_iinc (v := nI (k + 1)) (lv' := [(3, .int (nI (k + 1))), (2, .int (nI (cnt (fun j => see L T j i) (k + 1)))), (0, .ref xa), (1, .ref (sa i))]) hx hb dX3_halosSeenBy_36 hl (k := 3) rfl (nI_incn _) (by decide) rfl (fun ls hl => ?_)
          refine lv_goto (tgt := 4) hx hb dX3_halosSeenBy_39 (by decide) ?_
          exact ih_1 (k + 1) ls (by omega) (by omega) (lv_sub hl [2, 3, 1, 0] rfl)
  exact loop_1 _ 0 ls (Nat.lt_succ_self _) (Nat.zero_le _) (lv_sub hl [2, 3, 1, 0] rfl)
abbrev rmX3_stationsThatSee : Room := { frames := 3, cells := 0, slots := 0, locals := 64 }
theorem qdX3_stationsThatSee : yX3_stationsThatSee.cls = RX3 ∧ yX3_stationsThatSee.cls ≠ "java/lang/invoke/MethodHandle" ∧ yX3_stationsThatSee.cls ≠ "java/lang/invoke/VarHandle" ∧ (parseMethodDescriptor yX3_stationsThatSee.desc).map (fun d => d.parameters.length) = some 1 := by decide +kernel
set_option maxHeartbeats 4000000 in
set_option maxRecDepth 100000 in
theorem c_X3_stationsThatSee {l : Launch} {G : gT} {H : Heap} {ro : Nat → Prop} {n hn : Nat} {L T : Nat → Int32} {o : List Nat} {sa fa ta ha : Nat → Nat} {F U : Nat → Nat → Int32} {aS aB aH xa rb0 ms9 : Nat} (hxo : pt G xa (.inr (3, [.ref aS, .ref aB, .ref aH, .ref rb0, .ref ms9])) H) (hcr : crO G ro n hn L T o sa fa ta ha F U aS aB aH H) (hg : OK n hn L T) (ho : IsOrd (fun s => gL L s 0) n o) {j : Nat} (hj : j < hn) : Rd G l yX3_stationsThatSee wsX3_stationsThatSee rmX3_stationsThatSee [.ref xa, .ref (ha j)] H (.int (nI (sqL L T o j).length)) := by
  refine x_head (bytes := cX3_stationsThatSee) (maxL := 4) (ret := (some .int)) (by decide) rfl (Nat.le_of_ble_eq_true rfl) ?_
  intro p e s m below meth c ls hx hb hml hown hts hr hlk hnm hK hs0 hl Q hQ
  have hl : lv_has ls 4 [(0, .ref xa), (1, .ref (ha j))] := hl
  have hC : CallFix p m c cX3_stationsThatSee 4 s [.ref xa, .ref (ha j)].toArray wsX3_stationsThatSee RX3 := ⟨hx, hb, hml, hown, hts⟩
  have k_f12 := hts (.fieldLink RX3 12 "SundogLine" "stations" "Ljava/util/ArrayList;") (by decide +kernel)
  have in_X3 : ∀ w ∈ u_ws RX3 TX3 5, w ∈ wsX3_stationsThatSee := by decide +kernel
  have k_cl51 := hts (.classLink RX3 51 "SundogLine$Station") (by decide +kernel)
  have hn12 := hg.n
  have hh16 := hg.hn
  refine lv_iconst (v := nI 0) hx hb dX3_stationsThatSee_0 (by decide +kernel) ?_
  refine lv_istore_n (lv' := [(2, .int (nI 0)), (0, .ref xa), (1, .ref (ha j))]) hx hb dX3_stationsThatSee_1 rfl hl (by decide) rfl (fun ls hl => ?_)
  refine lv_iconst (v := nI 0) hx hb dX3_stationsThatSee_2 (by decide +kernel) ?_
  refine lv_istore_n (lv' := [(3, .int (nI 0)), (2, .int (nI 0)), (0, .ref xa), (1, .ref (ha j))]) hx hb dX3_stationsThatSee_3 rfl hl (by decide) rfl (fun ls hl => ?_)
  have loop_1 : ∀ (fu : Nat) (k : Nat)  (ls : Array Slot), n - k < fu → (k ≤ n) → lv_has ls 4 [(0, .ref xa), (1, .ref (ha j)), (2, .int (nI (cnt (fun s => see L T j s) k))), (3, .int (nI k))] → W p l e rmX3_stationsThatSee s m [.ref xa, .ref (ha j)].toArray below meth c H [] 0 0 Q (F0 m 4 ls []) := by
    intro fu
    induction fu with
    | zero => intro k ls hms hk hl; exact absurd hms (Nat.not_lt_zero _)
    | succ fu ih_1 =>
      intro k ls hms hk hl
      refine lv_iload_n hx hb dX3_stationsThatSee_4 rfl (lv_at hl 3 rfl) ?_
      refine lv_aload_n hx hb dX3_stationsThatSee_5 rfl (lv_at hl 0 rfl) ?_
      refine x_get (T := TX3) (N := 5) (v := .ref aS) hx hb hts in_X3 hown hK (hxo) rfl 0 (by decide) k_f12 (fun _ h9 => h9) (rfl) dX3_stationsThatSee_6 ?_
      refine x_rd (va_runV (As := []) (rest := [.int (nI k)]) hC (c_size (hcr.lS)) (cwV 0 hts gX3_stationsThatSee_Jx4a65c_size_8abf5 rfl rfl rfl qdJx4a65c_size_8abf5 ⟨Nat.le_of_ble_eq_true rfl, Nat.le_of_ble_eq_true rfl⟩) (x_preV hK (alR_recv hK (hcr.lS))) rfl rfl hl.1 rfl (lv_room (Nat.le_of_ble_eq_true rfl)) dX3_stationsThatSee_9 ⟨Nat.le_of_ble_eq_true rfl, Nat.le_of_ble_eq_true rfl⟩) ?_
      refine x_icmp_ge (tgt := 42) hx hb (by omega) (by omega) dX3_stationsThatSee_12 (by decide) (fun c_2 => ?_) (fun c_2 => ?_)
      · refine lv_iload_n hx hb dX3_stationsThatSee_42 rfl (lv_at hl 2 rfl) ?_
        exact x_rdi hQ hx hb hr rfl hlk (by rw [show k = n by omega, cnt_sq ho]) dX3_stationsThatSee_43
      · refine lv_aload_n hx hb dX3_stationsThatSee_15 rfl (lv_at hl 0 rfl) ?_
        refine x_get (T := TX3) (N := 5) (v := .ref aS) hx hb hts in_X3 hown hK (hxo) rfl 0 (by decide) k_f12 (fun _ h9 => h9) (rfl) dX3_stationsThatSee_16 ?_
        refine lv_iload_n hx hb dX3_stationsThatSee_19 rfl (lv_at hl 3 rfl) ?_
        refine x_rd (va_runV (As := [.int (nI k)]) (rest := []) hC (c_get (hcr.lS) (by omega)) (cwV 1 hts gX3_stationsThatSee_Jx4a65c_get_915e3 rfl rfl rfl qdJx4a65c_get_915e3 ⟨Nat.le_of_ble_eq_true rfl, Nat.le_of_ble_eq_true rfl⟩) (x_preV hK (alR_recv hK (hcr.lS))) rfl rfl hl.1 rfl (lv_room (Nat.le_of_ble_eq_true rfl)) dX3_stationsThatSee_20 ⟨Nat.le_of_ble_eq_true rfl, Nat.le_of_ble_eq_true rfl⟩) ?_
        refine x_cast hx hb hown k_cl51 hK ((hcr.st (show k < n by omega)).1) rfl dX3_stationsThatSee_23 ?_
        refine lv_aload_n hx hb dX3_stationsThatSee_26 rfl (lv_at hl 1 rfl) ?_
        refine x_rd (va_runV (As := [.ref (ha j)]) (rest := []) hC (c_X2_sees (hcr.st (show k < n by omega)) (hcr.hal (show j < hn by omega)) (hg.2.1 _ (show k < n by omega)) (hg.2.2.1 _ (show j < hn by omega))) (cwV 1 hts gX3_stationsThatSee_X2_sees rfl rfl rfl qdX2_sees ⟨Nat.le_of_ble_eq_true rfl, Nat.le_of_ble_eq_true rfl⟩) (x_preV hK (x_recv hK ((hcr.st (show k < n by omega)).1) rfl)) rfl rfl hl.1 rfl (lv_room (Nat.le_of_ble_eq_true rfl)) dX3_stationsThatSee_27 ⟨Nat.le_of_ble_eq_true rfl, Nat.le_of_ble_eq_true rfl⟩) ?_
        refine x_if_eqB (tgt := 36) hx hb dX3_stationsThatSee_30 (by decide) (fun c_3 => ?_) (fun c_3 => ?_)
        · have hl : lv_has ls 4 [(0, .ref xa), (1, .ref (ha j)), (2, .int (nI (cnt (fun s => see L T j s) (k + 1)))), (3, .int (nI k))] := by
            have e9 : (cnt (fun s => see L T j s) (k + 1)) = (cnt (fun s => see L T j s) k) := by show cnt (fun s => see L T j s) k + ((fun s => see L T j s) k).toNat = _; rw [show (fun s => see L T j s) k = false from c_3]; rfl
            rw [e9]; exact hl
          refine lv_iinc (v := nI (k + 1)) (lv' := [(3, .int (nI (k + 1))), (0, .ref xa), (1, .ref (ha j)), (2, .int (nI (cnt (fun s => see L T j s) (k + 1))))]) hx hb dX3_stationsThatSee_36 hl (k := 3) rfl (nI_incn _) (by decide) rfl (fun ls hl => ?_)
          refine lv_goto (tgt := 4) hx hb dX3_stationsThatSee_39 (by decide) ?_
          exact ih_1 (k + 1) ls (by omega) (by omega) (lv_sub hl [1, 2, 3, 0] rfl)
        · refine lv_iinc (v := nI ((cnt (fun s => see L T j s) k) + 1)) (lv' := [(2, .int (nI ((cnt (fun s => see L T j s) k) + 1))), (0, .ref xa), (1, .ref (ha j)), (3, .int (nI k))]) hx hb dX3_stationsThatSee_33 hl (k := 2) rfl (nI_incn _) (by decide) rfl (fun ls hl => ?_)
          have hl : lv_has ls 4 [(2, .int (nI (cnt (fun s => see L T j s) (k + 1)))), (0, .ref xa), (1, .ref (ha j)), (3, .int (nI k))] := by
            have e9 : (cnt (fun s => see L T j s) (k + 1)) = (cnt (fun s => see L T j s) k) + 1 := by show cnt (fun s => see L T j s) k + ((fun s => see L T j s) k).toNat = _; rw [show (fun s => see L T j s) k = true from c_3]; rfl
            rw [e9]; exact hl
          refine lv_iinc (v := nI (k + 1)) (lv' := [(3, .int (nI (k + 1))), (2, .int (nI (cnt (fun s => see L T j s) (k + 1)))), (0, .ref xa), (1, .ref (ha j))]) hx hb dX3_stationsThatSee_36 hl (k := 3) rfl (nI_incn _) (by decide) rfl (fun ls hl => ?_)
          refine lv_goto (tgt := 4) hx hb dX3_stationsThatSee_39 (by decide) ?_
          exact ih_1 (k + 1) ls (by omega) (by omega) (lv_sub hl [2, 3, 1, 0] rfl)
  exact loop_1 _ 0 ls (Nat.lt_succ_self _) (Nat.zero_le _) (lv_sub hl [2, 3, 1, 0] rfl)
abbrev rmX3_tellOfStation : Room := { frames := 4, cells := 0, slots := 0, locals := 87 }
theorem qdX3_tellOfStation : yX3_tellOfStation.cls = RX3 ∧ yX3_tellOfStation.cls ≠ "java/lang/invoke/MethodHandle" ∧ yX3_tellOfStation.cls ≠ "java/lang/invoke/VarHandle" ∧ (parseMethodDescriptor yX3_tellOfStation.desc).map (fun d => d.parameters.length) = some 2 := by decide +kernel
set_option maxHeartbeats 4000000 in
set_option maxRecDepth 100000 in
theorem c_X3_tellOfStation {l : Launch} {G : gT} {H : Heap} {ro : Nat → Prop} {n hn : Nat} {L T : Nat → Int32} {o : List Nat} {sa fa ta ha : Nat → Nat} {F U : Nat → Nat → Int32} {aS aB aH xa rb0 ms9 : Nat} (hxo : pt G xa (.inr (3, [.ref aS, .ref aB, .ref aH, .ref rb0, .ref ms9])) H) (hcr : crO G ro n hn L T o sa fa ta ha F U aS aB aH H) (hg : OK n hn L T) {i kk : Nat} (hi : i < n) (hkk : kk < 6) : Rd G l yX3_tellOfStation wsX3_tellOfStation rmX3_tellOfStation [.ref xa, .ref (sa i), .int (nI kk)] H (.int (stV hn L T i kk)) := by
  refine x_head (bytes := cX3_tellOfStation) (maxL := 3) (ret := (some .int)) (by decide) rfl (Nat.le_of_ble_eq_true rfl) ?_
  intro p e s m below meth c ls hx hb hml hown hts hr hlk hnm hK hs0 hl Q hQ
  have hl : lv_has ls 3 [(0, .ref xa), (1, .ref (sa i)), (2, .int (nI kk))] := hl
  have hC : CallFix p m c cX3_tellOfStation 3 s [.ref xa, .ref (sa i), .int (nI kk)].toArray wsX3_tellOfStation RX3 := ⟨hx, hb, hml, hown, hts⟩
  have k_f108 := hts (.fieldLink RX3 108 "SundogLine$Station" "place" "I") (by decide +kernel)
  have in_X2 : ∀ w ∈ u_ws RX2 TX2 8, w ∈ wsX3_tellOfStation := by decide +kernel
  have k_f184 := hts (.fieldLink RX3 184 "SundogLine$Station" "offset" "I") (by decide +kernel)
  have k_f187 := hts (.fieldLink RX3 187 "SundogLine$Station" "drift" "I") (by decide +kernel)
  have k_f91 := hts (.fieldLink RX3 91 "SundogLine$Station" "correction" "I") (by decide +kernel)
  have k_f85 := hts (.fieldLink RX3 85 "SundogLine$Station" "clouds" "I") (by decide +kernel)
  have hn12 := hg.n
  have hh16 := hg.hn
  refine lv_iload_n hx hb dX3_tellOfStation_0 rfl (lv_at hl 2 rfl) ?_
  rcases (show kk = 0 ∨ kk = 1 ∨ kk = 2 ∨ kk = 3 ∨ kk = 4 ∨ kk = 5 by omega) with rfl | rfl | rfl | rfl | rfl | rfl
  · refine lv_tableIn (off := 35) (tgt := 36) hx hb dX3_tellOfStation_1 (by decide) (by decide) (by decide) (by decide) ?_
    refine lv_aload_n hx hb dX3_tellOfStation_36 rfl (lv_at hl 1 rfl) ?_
    refine x_get (T := TX2) (N := 8) (v := .int (gL L i 0)) hx hb hts in_X2 hown hK ((hcr.st (show i < n by omega)).1) rfl 1 (by decide) k_f108 (fun _ h9 => h9) (rfl) dX3_tellOfStation_37 ?_
    exact x_rdi hQ hx hb hr rfl hlk (rfl) dX3_tellOfStation_40
  · refine lv_tableIn (off := 40) (tgt := 41) hx hb dX3_tellOfStation_1 (by decide) (by decide) (by decide) (by decide) ?_
    refine lv_aload_n hx hb dX3_tellOfStation_41 rfl (lv_at hl 1 rfl) ?_
    refine x_get (T := TX2) (N := 8) (v := .int (gL L i 1)) hx hb hts in_X2 hown hK ((hcr.st (show i < n by omega)).1) rfl 2 (by decide) k_f184 (fun _ h9 => h9) (rfl) dX3_tellOfStation_42 ?_
    exact x_rdi hQ hx hb hr rfl hlk (rfl) dX3_tellOfStation_45
  · refine lv_tableIn (off := 45) (tgt := 46) hx hb dX3_tellOfStation_1 (by decide) (by decide) (by decide) (by decide) ?_
    refine lv_aload_n hx hb dX3_tellOfStation_46 rfl (lv_at hl 1 rfl) ?_
    refine x_get (T := TX2) (N := 8) (v := .int (gL L i 2)) hx hb hts in_X2 hown hK ((hcr.st (show i < n by omega)).1) rfl 3 (by decide) k_f187 (fun _ h9 => h9) (rfl) dX3_tellOfStation_47 ?_
    exact x_rdi hQ hx hb hr rfl hlk (rfl) dX3_tellOfStation_50
  · refine lv_tableIn (off := 50) (tgt := 51) hx hb dX3_tellOfStation_1 (by decide) (by decide) (by decide) (by decide) ?_
    refine lv_aload_n hx hb dX3_tellOfStation_51 rfl (lv_at hl 1 rfl) ?_
    refine x_get (T := TX2) (N := 8) (v := .int (gL L i 3)) hx hb hts in_X2 hown hK ((hcr.st (show i < n by omega)).1) rfl 4 (by decide) k_f91 (fun _ h9 => h9) (rfl) dX3_tellOfStation_52 ?_
    exact x_rdi hQ hx hb hr rfl hlk (rfl) dX3_tellOfStation_55
  · refine lv_tableIn (off := 55) (tgt := 56) hx hb dX3_tellOfStation_1 (by decide) (by decide) (by decide) (by decide) ?_
    refine lv_aload_n hx hb dX3_tellOfStation_56 rfl (lv_at hl 1 rfl) ?_
    refine x_get (T := TX2) (N := 8) (v := .int (gL L i 4)) hx hb hts in_X2 hown hK ((hcr.st (show i < n by omega)).1) rfl 5 (by decide) k_f85 (fun _ h9 => h9) (rfl) dX3_tellOfStation_57 ?_
    exact x_rdi hQ hx hb hr rfl hlk (rfl) dX3_tellOfStation_60
  · refine lv_tableOut (tgt := 61) hx hb dX3_tellOfStation_1 (by decide) (by decide) ?_
    refine lv_aload_n hx hb dX3_tellOfStation_61 rfl (lv_at hl 0 rfl) ?_
    refine lv_aload_n hx hb dX3_tellOfStation_62 rfl (lv_at hl 1 rfl) ?_
    refine x_rd (va_runV (As := [.ref (sa i)]) (rest := []) hC (c_X3_halosSeenBy (hxo) (hcr) hg (show i < n by omega)) (cwV 1 hts gX3_tellOfStation_X3_halosSeenBy rfl rfl rfl qdX3_halosSeenBy ⟨Nat.le_of_ble_eq_true rfl, Nat.le_of_ble_eq_true rfl⟩) (x_preV hK (x_recv hK (hxo) rfl)) rfl rfl hl.1 rfl (lv_room (Nat.le_of_ble_eq_true rfl)) dX3_tellOfStation_63 ⟨Nat.le_of_ble_eq_true rfl, Nat.le_of_ble_eq_true rfl⟩) ?_
    exact x_rdi hQ hx hb hr rfl hlk (rfl) dX3_tellOfStation_66
abbrev rmX3_sightings : Room := { frames := 4, cells := 0, slots := 0, locals := 87 }
theorem qdX3_sightings : yX3_sightings.cls = RX3 ∧ yX3_sightings.cls ≠ "java/lang/invoke/MethodHandle" ∧ yX3_sightings.cls ≠ "java/lang/invoke/VarHandle" ∧ (parseMethodDescriptor yX3_sightings.desc).map (fun d => d.parameters.length) = some 0 := by decide +kernel
set_option maxHeartbeats 4000000 in
set_option maxRecDepth 100000 in
theorem c_X3_sightings {l : Launch} {G : gT} {H : Heap} {ro : Nat → Prop} {n hn : Nat} {L T : Nat → Int32} {o : List Nat} {sa fa ta ha : Nat → Nat} {F U : Nat → Nat → Int32} {aS aB aH xa rb0 ms9 : Nat} (hxo : pt G xa (.inr (3, [.ref aS, .ref aB, .ref aH, .ref rb0, .ref ms9])) H) (hcr : crO G ro n hn L T o sa fa ta ha F U aS aB aH H) (hg : OK n hn L T) (ho : IsOrd (fun s => gL L s 0) n o) : Rd G l yX3_sightings wsX3_sightings rmX3_sightings [.ref xa] H (.int (nI (sumN (fun h => sqM L T o h) hn))) := by
  refine x_head (bytes := cX3_sightings) (maxL := 3) (ret := (some .int)) (by decide) rfl (Nat.le_of_ble_eq_true rfl) ?_
  intro p e s m below meth c ls hx hb hml hown hts hr hlk hnm hK hs0 hl Q hQ
  have hl : lv_has ls 3 [(0, .ref xa)] := hl
  have hC : CallFix p m c cX3_sightings 3 s [.ref xa].toArray wsX3_sightings RX3 := ⟨hx, hb, hml, hown, hts⟩
  have k_f19 := hts (.fieldLink RX3 19 "SundogLine" "halos" "Ljava/util/ArrayList;") (by decide +kernel)
  have in_X3 : ∀ w ∈ u_ws RX3 TX3 5, w ∈ wsX3_sightings := by decide +kernel
  have k_cl102 := hts (.classLink RX3 102 RX0) (by decide +kernel)
  have hn12 := hg.n
  have hh16 := hg.hn
  refine lv_iconst (v := nI 0) hx hb dX3_sightings_0 (by decide +kernel) ?_
  refine lv_istore_n (lv' := [(1, .int (nI 0)), (0, .ref xa)]) hx hb dX3_sightings_1 rfl hl (by decide) rfl (fun ls hl => ?_)
  refine lv_iconst (v := nI 0) hx hb dX3_sightings_2 (by decide +kernel) ?_
  refine lv_istore_n (lv' := [(2, .int (nI 0)), (1, .int (nI 0)), (0, .ref xa)]) hx hb dX3_sightings_3 rfl hl (by decide) rfl (fun ls hl => ?_)
  have loop_1 : ∀ (fu : Nat) (k : Nat)  (ls : Array Slot), hn - k < fu → (k ≤ hn) → lv_has ls 3 [(0, .ref xa), (1, .int (nI (sumN (fun h => sqM L T o h) k))), (2, .int (nI k))] → W p l e rmX3_sightings s m [.ref xa].toArray below meth c H [] 0 0 Q (F0 m 4 ls []) := by
    intro fu
    induction fu with
    | zero => intro k ls hms hk hl; exact absurd hms (Nat.not_lt_zero _)
    | succ fu ih_1 =>
      intro k ls hms hk hl
      refine lv_iload_n hx hb dX3_sightings_4 rfl (lv_at hl 2 rfl) ?_
      refine lv_aload_n hx hb dX3_sightings_5 rfl (lv_at hl 0 rfl) ?_
      refine x_get (T := TX3) (N := 5) (v := .ref aH) hx hb hts in_X3 hown hK (hxo) rfl 2 (by decide) k_f19 (fun _ h9 => h9) (rfl) dX3_sightings_6 ?_
      refine x_rd (va_runV (As := []) (rest := [.int (nI k)]) hC (c_size (hcr.lH)) (cwV 0 hts gX3_sightings_Jx4a65c_size_8abf5 rfl rfl rfl qdJx4a65c_size_8abf5 ⟨Nat.le_of_ble_eq_true rfl, Nat.le_of_ble_eq_true rfl⟩) (x_preV hK (alR_recv hK (hcr.lH))) rfl rfl hl.1 rfl (lv_room (Nat.le_of_ble_eq_true rfl)) dX3_sightings_9 ⟨Nat.le_of_ble_eq_true rfl, Nat.le_of_ble_eq_true rfl⟩) ?_
      refine x_icmp_ge (tgt := 39) hx hb (by omega) (by omega) dX3_sightings_12 (by decide) (fun c_2 => ?_) (fun c_2 => ?_)
      · refine lv_iload_n hx hb dX3_sightings_39 rfl (lv_at hl 1 rfl) ?_
        exact x_rdi hQ hx hb hr rfl hlk (by rw [show k = hn by omega]) dX3_sightings_40
      · refine lv_iload_n hx hb dX3_sightings_15 rfl (lv_at hl 1 rfl) ?_
        refine lv_aload_n hx hb dX3_sightings_16 rfl (lv_at hl 0 rfl) ?_
        refine lv_aload_n hx hb dX3_sightings_17 rfl (lv_at hl 0 rfl) ?_
        refine x_get (T := TX3) (N := 5) (v := .ref aH) hx hb hts in_X3 hown hK (hxo) rfl 2 (by decide) k_f19 (fun _ h9 => h9) (rfl) dX3_sightings_18 ?_
        refine lv_iload_n hx hb dX3_sightings_21 rfl (lv_at hl 2 rfl) ?_
        refine x_rd (va_runV (As := [.int (nI k)]) (rest := [.ref xa, .int (nI (sumN (fun h => sqM L T o h) k))]) hC (c_get (hcr.lH) (by omega)) (cwV 1 hts gX3_sightings_Jx4a65c_get_915e3 rfl rfl rfl qdJx4a65c_get_915e3 ⟨Nat.le_of_ble_eq_true rfl, Nat.le_of_ble_eq_true rfl⟩) (x_preV hK (alR_recv hK (hcr.lH))) rfl rfl hl.1 rfl (lv_room (Nat.le_of_ble_eq_true rfl)) dX3_sightings_22 ⟨Nat.le_of_ble_eq_true rfl, Nat.le_of_ble_eq_true rfl⟩) ?_
        refine x_cast hx hb hown k_cl102 hK (hcr.hal (show k < hn by omega)) rfl dX3_sightings_25 ?_
        have hMk : (sqL L T o k).length ≤ n := sqM_le ho
        refine x_rd (va_runV (As := [.ref (ha k)]) (rest := [.int (nI (sumN (fun h => sqM L T o h) k))]) hC (c_X3_stationsThatSee (hxo) (hcr) hg ho (show k < hn by omega)) (cwV 1 hts gX3_sightings_X3_stationsThatSee rfl rfl rfl qdX3_stationsThatSee ⟨Nat.le_of_ble_eq_true rfl, Nat.le_of_ble_eq_true rfl⟩) (x_preV hK (x_recv hK (hxo) rfl)) rfl rfl hl.1 rfl (lv_room (Nat.le_of_ble_eq_true rfl)) dX3_sightings_28 ⟨Nat.le_of_ble_eq_true rfl, Nat.le_of_ble_eq_true rfl⟩) ?_
        refine x_iaddN hx hb dX3_sightings_31 ?_
        refine lv_istore_n (lv' := [(1, .int (nI ((sumN (fun h => sqM L T o h) k) + ((sqL L T o k).length)))), (0, .ref xa), (2, .int (nI k))]) hx hb dX3_sightings_32 rfl hl (by decide) rfl (fun ls hl => ?_)
        have hl : lv_has ls 3 [(1, .int (nI (sumN (fun h => sqM L T o h) (k + 1)))), (0, .ref xa), (2, .int (nI k))] := by
          have e9 : (sumN (fun h => sqM L T o h) (k + 1)) = (sumN (fun h => sqM L T o h) k) + ((sqL L T o k).length) := rfl
          rw [e9]; exact hl
        refine lv_iinc (v := nI (k + 1)) (lv' := [(2, .int (nI (k + 1))), (1, .int (nI (sumN (fun h => sqM L T o h) (k + 1)))), (0, .ref xa)]) hx hb dX3_sightings_33 hl (k := 2) rfl (nI_incn _) (by decide) rfl (fun ls hl => ?_)
        refine lv_goto (tgt := 4) hx hb dX3_sightings_36 (by decide) ?_
        exact ih_1 (k + 1) ls (by omega) (by omega) (lv_sub hl [2, 1, 0] rfl)
  exact loop_1 _ 0 ls (Nat.lt_succ_self _) (Nat.zero_le _) (lv_sub hl [2, 1, 0] rfl)
abbrev rmX3_unseenHalos : Room := { frames := 4, cells := 0, slots := 0, locals := 87 }
theorem qdX3_unseenHalos : yX3_unseenHalos.cls = RX3 ∧ yX3_unseenHalos.cls ≠ "java/lang/invoke/MethodHandle" ∧ yX3_unseenHalos.cls ≠ "java/lang/invoke/VarHandle" ∧ (parseMethodDescriptor yX3_unseenHalos.desc).map (fun d => d.parameters.length) = some 0 := by decide +kernel
set_option maxHeartbeats 4000000 in
set_option maxRecDepth 100000 in
theorem c_X3_unseenHalos {l : Launch} {G : gT} {H : Heap} {ro : Nat → Prop} {n hn : Nat} {L T : Nat → Int32} {o : List Nat} {sa fa ta ha : Nat → Nat} {F U : Nat → Nat → Int32} {aS aB aH xa rb0 ms9 : Nat} (hxo : pt G xa (.inr (3, [.ref aS, .ref aB, .ref aH, .ref rb0, .ref ms9])) H) (hcr : crO G ro n hn L T o sa fa ta ha F U aS aB aH H) (hg : OK n hn L T) (ho : IsOrd (fun s => gL L s 0) n o) : Rd G l yX3_unseenHalos wsX3_unseenHalos rmX3_unseenHalos [.ref xa] H (.int (nI (cnt (fun h => decide (sqM L T o h = 0)) hn))) := by
  refine x_head (bytes := cX3_unseenHalos) (maxL := 3) (ret := (some .int)) (by decide) rfl (Nat.le_of_ble_eq_true rfl) ?_
  intro p e s m below meth c ls hx hb hml hown hts hr hlk hnm hK hs0 hl Q hQ
  have hl : lv_has ls 3 [(0, .ref xa)] := hl
  have hC : CallFix p m c cX3_unseenHalos 3 s [.ref xa].toArray wsX3_unseenHalos RX3 := ⟨hx, hb, hml, hown, hts⟩
  have k_f19 := hts (.fieldLink RX3 19 "SundogLine" "halos" "Ljava/util/ArrayList;") (by decide +kernel)
  have in_X3 : ∀ w ∈ u_ws RX3 TX3 5, w ∈ wsX3_unseenHalos := by decide +kernel
  have k_cl102 := hts (.classLink RX3 102 RX0) (by decide +kernel)
  have hn12 := hg.n
  have hh16 := hg.hn
  refine lv_iconst (v := nI 0) hx hb dX3_unseenHalos_0 (by decide +kernel) ?_
  refine lv_istore_n (lv' := [(1, .int (nI 0)), (0, .ref xa)]) hx hb dX3_unseenHalos_1 rfl hl (by decide) rfl (fun ls hl => ?_)
  refine lv_iconst (v := nI 0) hx hb dX3_unseenHalos_2 (by decide +kernel) ?_
  refine lv_istore_n (lv' := [(2, .int (nI 0)), (1, .int (nI 0)), (0, .ref xa)]) hx hb dX3_unseenHalos_3 rfl hl (by decide) rfl (fun ls hl => ?_)
  have loop_1 : ∀ (fu : Nat) (k : Nat)  (ls : Array Slot), hn - k < fu → (k ≤ hn) → lv_has ls 3 [(0, .ref xa), (1, .int (nI (cnt (fun h => decide (sqM L T o h = 0)) k))), (2, .int (nI k))] → W p l e rmX3_unseenHalos s m [.ref xa].toArray below meth c H [] 0 0 Q (F0 m 4 ls []) := by
    intro fu
    induction fu with
    | zero => intro k ls hms hk hl; exact absurd hms (Nat.not_lt_zero _)
    | succ fu ih_1 =>
      intro k ls hms hk hl
      refine lv_iload_n hx hb dX3_unseenHalos_4 rfl (lv_at hl 2 rfl) ?_
      refine lv_aload_n hx hb dX3_unseenHalos_5 rfl (lv_at hl 0 rfl) ?_
      refine x_get (T := TX3) (N := 5) (v := .ref aH) hx hb hts in_X3 hown hK (hxo) rfl 2 (by decide) k_f19 (fun _ h9 => h9) (rfl) dX3_unseenHalos_6 ?_
      refine x_rd (va_runV (As := []) (rest := [.int (nI k)]) hC (c_size (hcr.lH)) (cwV 0 hts gX3_unseenHalos_Jx4a65c_size_8abf5 rfl rfl rfl qdJx4a65c_size_8abf5 ⟨Nat.le_of_ble_eq_true rfl, Nat.le_of_ble_eq_true rfl⟩) (x_preV hK (alR_recv hK (hcr.lH))) rfl rfl hl.1 rfl (lv_room (Nat.le_of_ble_eq_true rfl)) dX3_unseenHalos_9 ⟨Nat.le_of_ble_eq_true rfl, Nat.le_of_ble_eq_true rfl⟩) ?_
      refine x_icmp_ge (tgt := 42) hx hb (by omega) (by omega) dX3_unseenHalos_12 (by decide) (fun c_2 => ?_) (fun c_2 => ?_)
      · refine lv_iload_n hx hb dX3_unseenHalos_42 rfl (lv_at hl 1 rfl) ?_
        exact x_rdi hQ hx hb hr rfl hlk (by rw [show k = hn by omega]) dX3_unseenHalos_43
      · refine lv_aload_n hx hb dX3_unseenHalos_15 rfl (lv_at hl 0 rfl) ?_
        refine lv_aload_n hx hb dX3_unseenHalos_16 rfl (lv_at hl 0 rfl) ?_
        refine x_get (T := TX3) (N := 5) (v := .ref aH) hx hb hts in_X3 hown hK (hxo) rfl 2 (by decide) k_f19 (fun _ h9 => h9) (rfl) dX3_unseenHalos_17 ?_
        refine lv_iload_n hx hb dX3_unseenHalos_20 rfl (lv_at hl 2 rfl) ?_
        refine x_rd (va_runV (As := [.int (nI k)]) (rest := [.ref xa]) hC (c_get (hcr.lH) (by omega)) (cwV 1 hts gX3_unseenHalos_Jx4a65c_get_915e3 rfl rfl rfl qdJx4a65c_get_915e3 ⟨Nat.le_of_ble_eq_true rfl, Nat.le_of_ble_eq_true rfl⟩) (x_preV hK (alR_recv hK (hcr.lH))) rfl rfl hl.1 rfl (lv_room (Nat.le_of_ble_eq_true rfl)) dX3_unseenHalos_21 ⟨Nat.le_of_ble_eq_true rfl, Nat.le_of_ble_eq_true rfl⟩) ?_
        refine x_cast hx hb hown k_cl102 hK (hcr.hal (show k < hn by omega)) rfl dX3_unseenHalos_24 ?_
        have hMk : (sqL L T o k).length ≤ n := sqM_le ho
        refine x_rd (va_runV (As := [.ref (ha k)]) (rest := []) hC (c_X3_stationsThatSee (hxo) (hcr) hg ho (show k < hn by omega)) (cwV 1 hts gX3_unseenHalos_X3_stationsThatSee rfl rfl rfl qdX3_stationsThatSee ⟨Nat.le_of_ble_eq_true rfl, Nat.le_of_ble_eq_true rfl⟩) (x_preV hK (x_recv hK (hxo) rfl)) rfl rfl hl.1 rfl (lv_room (Nat.le_of_ble_eq_true rfl)) dX3_unseenHalos_27 ⟨Nat.le_of_ble_eq_true rfl, Nat.le_of_ble_eq_true rfl⟩) ?_
        refine x_if_neN (tgt := 36) hx hb (by omega) dX3_unseenHalos_30 (by decide) (fun c_3 => ?_) (fun c_3 => ?_)
        · have hl : lv_has ls 3 [(0, .ref xa), (1, .int (nI (cnt (fun h => decide (sqM L T o h = 0)) (k + 1)))), (2, .int (nI k))] := by
            have e9 : (cnt (fun h => decide (sqM L T o h = 0)) (k + 1)) = (cnt (fun h => decide (sqM L T o h = 0)) k) := by show cnt (fun h => decide (sqM L T o h = 0)) k + ((fun h => decide (sqM L T o h = 0)) k).toNat = _; rw [show (fun h => decide (sqM L T o h = 0)) k = false from decide_eq_false (show ¬ (sqL L T o k).length = 0 by omega)]; rfl
            rw [e9]; exact hl
          refine lv_iinc (v := nI (k + 1)) (lv' := [(2, .int (nI (k + 1))), (0, .ref xa), (1, .int (nI (cnt (fun h => decide (sqM L T o h = 0)) (k + 1))))]) hx hb dX3_unseenHalos_36 hl (k := 2) rfl (nI_incn _) (by decide) rfl (fun ls hl => ?_)
          refine lv_goto (tgt := 4) hx hb dX3_unseenHalos_39 (by decide) ?_
          exact ih_1 (k + 1) ls (by omega) (by omega) (lv_sub hl [1, 2, 0] rfl)
        · refine lv_iinc (v := nI ((cnt (fun h => decide (sqM L T o h = 0)) k) + 1)) (lv' := [(1, .int (nI ((cnt (fun h => decide (sqM L T o h = 0)) k) + 1))), (0, .ref xa), (2, .int (nI k))]) hx hb dX3_unseenHalos_33 hl (k := 1) rfl (nI_incn _) (by decide) rfl (fun ls hl => ?_)
          have hl : lv_has ls 3 [(1, .int (nI (cnt (fun h => decide (sqM L T o h = 0)) (k + 1)))), (0, .ref xa), (2, .int (nI k))] := by
            have e9 : (cnt (fun h => decide (sqM L T o h = 0)) (k + 1)) = (cnt (fun h => decide (sqM L T o h = 0)) k) + 1 := by show cnt (fun h => decide (sqM L T o h = 0)) k + ((fun h => decide (sqM L T o h = 0)) k).toNat = _; rw [show (fun h => decide (sqM L T o h = 0)) k = true from decide_eq_true (show (sqL L T o k).length = 0 by omega)]; rfl
            rw [e9]; exact hl
          refine lv_iinc (v := nI (k + 1)) (lv' := [(2, .int (nI (k + 1))), (1, .int (nI (cnt (fun h => decide (sqM L T o h = 0)) (k + 1)))), (0, .ref xa)]) hx hb dX3_unseenHalos_36 hl (k := 2) rfl (nI_incn _) (by decide) rfl (fun ls hl => ?_)
          refine lv_goto (tgt := 4) hx hb dX3_unseenHalos_39 (by decide) ?_
          exact ih_1 (k + 1) ls (by omega) (by omega) (lv_sub hl [2, 1, 0] rfl)
  exact loop_1 _ 0 ls (Nat.lt_succ_self _) (Nat.zero_le _) (lv_sub hl [2, 1, 0] rfl)
abbrev rmX3_allClouds : Room := { frames := 3, cells := 0, slots := 0, locals := 64 }
theorem qdX3_allClouds : yX3_allClouds.cls = RX3 ∧ yX3_allClouds.cls ≠ "java/lang/invoke/MethodHandle" ∧ yX3_allClouds.cls ≠ "java/lang/invoke/VarHandle" ∧ (parseMethodDescriptor yX3_allClouds.desc).map (fun d => d.parameters.length) = some 0 := by decide +kernel
set_option maxHeartbeats 4000000 in
set_option maxRecDepth 100000 in
theorem c_X3_allClouds {l : Launch} {G : gT} {H : Heap} {ro : Nat → Prop} {n hn : Nat} {L T : Nat → Int32} {o : List Nat} {sa fa ta ha : Nat → Nat} {F U : Nat → Nat → Int32} {aS aB aH xa rb0 ms9 : Nat} (hxo : pt G xa (.inr (3, [.ref aS, .ref aB, .ref aH, .ref rb0, .ref ms9])) H) (hcr : crO G ro n hn L T o sa fa ta ha F U aS aB aH H) (hg : OK n hn L T) : Rd G l yX3_allClouds wsX3_allClouds rmX3_allClouds [.ref xa] H (.int (nI (sumN (fun s => nc L s) n))) := by
  refine x_head (bytes := cX3_allClouds) (maxL := 3) (ret := (some .int)) (by decide) rfl (Nat.le_of_ble_eq_true rfl) ?_
  intro p e s m below meth c ls hx hb hml hown hts hr hlk hnm hK hs0 hl Q hQ
  have hl : lv_has ls 3 [(0, .ref xa)] := hl
  have hC : CallFix p m c cX3_allClouds 3 s [.ref xa].toArray wsX3_allClouds RX3 := ⟨hx, hb, hml, hown, hts⟩
  have k_f12 := hts (.fieldLink RX3 12 "SundogLine" "stations" "Ljava/util/ArrayList;") (by decide +kernel)
  have in_X3 : ∀ w ∈ u_ws RX3 TX3 5, w ∈ wsX3_allClouds := by decide +kernel
  have k_cl51 := hts (.classLink RX3 51 "SundogLine$Station") (by decide +kernel)
  have k_f85 := hts (.fieldLink RX3 85 "SundogLine$Station" "clouds" "I") (by decide +kernel)
  have in_X2 : ∀ w ∈ u_ws RX2 TX2 8, w ∈ wsX3_allClouds := by decide +kernel
  have hn12 := hg.n
  have hh16 := hg.hn
  refine lv_iconst (v := nI 0) hx hb dX3_allClouds_0 (by decide +kernel) ?_
  refine lv_istore_n (lv' := [(1, .int (nI 0)), (0, .ref xa)]) hx hb dX3_allClouds_1 rfl hl (by decide) rfl (fun ls hl => ?_)
  refine lv_iconst (v := nI 0) hx hb dX3_allClouds_2 (by decide +kernel) ?_
  refine lv_istore_n (lv' := [(2, .int (nI 0)), (1, .int (nI 0)), (0, .ref xa)]) hx hb dX3_allClouds_3 rfl hl (by decide) rfl (fun ls hl => ?_)
  have loop_1 : ∀ (fu : Nat) (k : Nat)  (ls : Array Slot), n - k < fu → (k ≤ n) → lv_has ls 3 [(0, .ref xa), (1, .int (nI (sumN (fun s => nc L s) k))), (2, .int (nI k))] → W p l e rmX3_allClouds s m [.ref xa].toArray below meth c H [] 0 0 Q (F0 m 4 ls []) := by
    intro fu
    induction fu with
    | zero => intro k ls hms hk hl; exact absurd hms (Nat.not_lt_zero _)
    | succ fu ih_1 =>
      intro k ls hms hk hl
      refine lv_iload_n hx hb dX3_allClouds_4 rfl (lv_at hl 2 rfl) ?_
      refine lv_aload_n hx hb dX3_allClouds_5 rfl (lv_at hl 0 rfl) ?_
      refine x_get (T := TX3) (N := 5) (v := .ref aS) hx hb hts in_X3 hown hK (hxo) rfl 0 (by decide) k_f12 (fun _ h9 => h9) (rfl) dX3_allClouds_6 ?_
      refine x_rd (va_runV (As := []) (rest := [.int (nI k)]) hC (c_size (hcr.lS)) (cwV 0 hts gX3_allClouds_Jx4a65c_size_8abf5 rfl rfl rfl qdJx4a65c_size_8abf5 ⟨Nat.le_of_ble_eq_true rfl, Nat.le_of_ble_eq_true rfl⟩) (x_preV hK (alR_recv hK (hcr.lS))) rfl rfl hl.1 rfl (lv_room (Nat.le_of_ble_eq_true rfl)) dX3_allClouds_9 ⟨Nat.le_of_ble_eq_true rfl, Nat.le_of_ble_eq_true rfl⟩) ?_
      refine x_icmp_ge (tgt := 38) hx hb (by omega) (by omega) dX3_allClouds_12 (by decide) (fun c_2 => ?_) (fun c_2 => ?_)
      · refine lv_iload_n hx hb dX3_allClouds_38 rfl (lv_at hl 1 rfl) ?_
        exact x_rdi hQ hx hb hr rfl hlk (by rw [show k = n by omega]) dX3_allClouds_39
      · refine lv_iload_n hx hb dX3_allClouds_15 rfl (lv_at hl 1 rfl) ?_
        refine lv_aload_n hx hb dX3_allClouds_16 rfl (lv_at hl 0 rfl) ?_
        refine x_get (T := TX3) (N := 5) (v := .ref aS) hx hb hts in_X3 hown hK (hxo) rfl 0 (by decide) k_f12 (fun _ h9 => h9) (rfl) dX3_allClouds_17 ?_
        refine lv_iload_n hx hb dX3_allClouds_20 rfl (lv_at hl 2 rfl) ?_
        refine x_rd (va_runV (As := [.int (nI k)]) (rest := [.int (nI (sumN (fun s => nc L s) k))]) hC (c_get (hcr.lS) (by omega)) (cwV 1 hts gX3_allClouds_Jx4a65c_get_915e3 rfl rfl rfl qdJx4a65c_get_915e3 ⟨Nat.le_of_ble_eq_true rfl, Nat.le_of_ble_eq_true rfl⟩) (x_preV hK (alR_recv hK (hcr.lS))) rfl rfl hl.1 rfl (lv_room (Nat.le_of_ble_eq_true rfl)) dX3_allClouds_21 ⟨Nat.le_of_ble_eq_true rfl, Nat.le_of_ble_eq_true rfl⟩) ?_
        refine x_cast hx hb hown k_cl51 hK ((hcr.st (show k < n by omega)).1) rfl dX3_allClouds_24 ?_
        refine x_get (T := TX2) (N := 8) (v := .int (nI (nc L k))) hx hb hts in_X2 hown hK ((hcr.st (show k < n by omega)).1) rfl 5 (by decide) k_f85 (fun _ h9 => h9) (congrArg (fun z => some (Value.int z)) (hg.c (show k < n by omega))) dX3_allClouds_27 ?_
        refine x_iaddN hx hb dX3_allClouds_30 ?_
        refine lv_istore_n (lv' := [(1, .int (nI ((sumN (fun s => nc L s) k) + (nc L k)))), (0, .ref xa), (2, .int (nI k))]) hx hb dX3_allClouds_31 rfl hl (by decide) rfl (fun ls hl => ?_)
        have hl : lv_has ls 3 [(1, .int (nI (sumN (fun s => nc L s) (k + 1)))), (0, .ref xa), (2, .int (nI k))] := by
          have e9 : (sumN (fun s => nc L s) (k + 1)) = (sumN (fun s => nc L s) k) + (nc L k) := rfl
          rw [e9]; exact hl
        refine lv_iinc (v := nI (k + 1)) (lv' := [(2, .int (nI (k + 1))), (1, .int (nI (sumN (fun s => nc L s) (k + 1)))), (0, .ref xa)]) hx hb dX3_allClouds_32 hl (k := 2) rfl (nI_incn _) (by decide) rfl (fun ls hl => ?_)
        refine lv_goto (tgt := 4) hx hb dX3_allClouds_35 (by decide) ?_
        exact ih_1 (k + 1) ls (by omega) (by omega) (lv_sub hl [2, 1, 0] rfl)
  exact loop_1 _ 0 ls (Nat.lt_succ_self _) (Nat.zero_le _) (lv_sub hl [2, 1, 0] rfl)
abbrev rmX3_countOf : Room := { frames := 5, cells := 0, slots := 0, locals := 109 }
theorem qdX3_countOf : yX3_countOf.cls = RX3 ∧ yX3_countOf.cls ≠ "java/lang/invoke/MethodHandle" ∧ yX3_countOf.cls ≠ "java/lang/invoke/VarHandle" ∧ (parseMethodDescriptor yX3_countOf.desc).map (fun d => d.parameters.length) = some 1 := by decide +kernel
set_option maxHeartbeats 4000000 in
set_option maxRecDepth 100000 in
theorem c_X3_countOf {l : Launch} {G : gT} {H : Heap} {ro : Nat → Prop} {n hn : Nat} {L T : Nat → Int32} {o : List Nat} {sa fa ta ha : Nat → Nat} {F U : Nat → Nat → Int32} {aS aB aH xa rb0 ms9 : Nat} (hxo : pt G xa (.inr (3, [.ref aS, .ref aB, .ref aH, .ref rb0, .ref ms9])) H) (hcr : crO G ro n hn L T o sa fa ta ha F U aS aB aH H) (hg : OK n hn L T) (ho : IsOrd (fun s => gL L s 0) n o) {kk : Nat} (hkk : kk < 5) : Rd G l yX3_countOf wsX3_countOf rmX3_countOf [.ref xa, .int (nI kk)] H (.int (cv n hn L T o kk)) := by
  refine x_head (bytes := cX3_countOf) (maxL := 2) (ret := (some .int)) (by decide) rfl (Nat.le_of_ble_eq_true rfl) ?_
  intro p e s m below meth c ls hx hb hml hown hts hr hlk hnm hK hs0 hl Q hQ
  have hl : lv_has ls 2 [(0, .ref xa), (1, .int (nI kk))] := hl
  have hC : CallFix p m c cX3_countOf 2 s [.ref xa, .int (nI kk)].toArray wsX3_countOf RX3 := ⟨hx, hb, hml, hown, hts⟩
  have k_f12 := hts (.fieldLink RX3 12 "SundogLine" "stations" "Ljava/util/ArrayList;") (by decide +kernel)
  have in_X3 : ∀ w ∈ u_ws RX3 TX3 5, w ∈ wsX3_countOf := by decide +kernel
  have k_f19 := hts (.fieldLink RX3 19 "SundogLine" "halos" "Ljava/util/ArrayList;") (by decide +kernel)
  have hn12 := hg.n
  have hh16 := hg.hn
  refine lv_iload_n hx hb dX3_countOf_0 rfl (lv_at hl 1 rfl) ?_
  rcases (show kk = 0 ∨ kk = 1 ∨ kk = 2 ∨ kk = 3 ∨ kk = 4 by omega) with rfl | rfl | rfl | rfl | rfl
  · refine lv_tableIn (off := 31) (tgt := 32) hx hb dX3_countOf_1 (by decide) (by decide) (by decide) (by decide) ?_
    refine lv_aload_n hx hb dX3_countOf_32 rfl (lv_at hl 0 rfl) ?_
    refine x_get (T := TX3) (N := 5) (v := .ref aS) hx hb hts in_X3 hown hK (hxo) rfl 0 (by decide) k_f12 (fun _ h9 => h9) (rfl) dX3_countOf_33 ?_
    refine x_rd (va_runV (As := []) (rest := []) hC (c_size (hcr.lS)) (cwV 0 hts gX3_countOf_Jx4a65c_size_8abf5 rfl rfl rfl qdJx4a65c_size_8abf5 ⟨Nat.le_of_ble_eq_true rfl, Nat.le_of_ble_eq_true rfl⟩) (x_preV hK (alR_recv hK (hcr.lS))) rfl rfl hl.1 rfl (lv_room (Nat.le_of_ble_eq_true rfl)) dX3_countOf_36 ⟨Nat.le_of_ble_eq_true rfl, Nat.le_of_ble_eq_true rfl⟩) ?_
    exact x_rdi hQ hx hb hr rfl hlk (rfl) dX3_countOf_39
  · refine lv_tableIn (off := 39) (tgt := 40) hx hb dX3_countOf_1 (by decide) (by decide) (by decide) (by decide) ?_
    refine lv_aload_n hx hb dX3_countOf_40 rfl (lv_at hl 0 rfl) ?_
    refine x_get (T := TX3) (N := 5) (v := .ref aH) hx hb hts in_X3 hown hK (hxo) rfl 2 (by decide) k_f19 (fun _ h9 => h9) (rfl) dX3_countOf_41 ?_
    refine x_rd (va_runV (As := []) (rest := []) hC (c_size (hcr.lH)) (cwV 0 hts gX3_countOf_Jx4a65c_size_8abf5 rfl rfl rfl qdJx4a65c_size_8abf5 ⟨Nat.le_of_ble_eq_true rfl, Nat.le_of_ble_eq_true rfl⟩) (x_preV hK (alR_recv hK (hcr.lH))) rfl rfl hl.1 rfl (lv_room (Nat.le_of_ble_eq_true rfl)) dX3_countOf_44 ⟨Nat.le_of_ble_eq_true rfl, Nat.le_of_ble_eq_true rfl⟩) ?_
    exact x_rdi hQ hx hb hr rfl hlk (rfl) dX3_countOf_47
  · refine lv_tableIn (off := 47) (tgt := 48) hx hb dX3_countOf_1 (by decide) (by decide) (by decide) (by decide) ?_
    refine lv_aload_n hx hb dX3_countOf_48 rfl (lv_at hl 0 rfl) ?_
    refine x_rd (va_runV (As := []) (rest := []) hC (c_X3_sightings (hxo) (hcr) hg ho) (cwV 0 hts gX3_countOf_X3_sightings rfl rfl rfl qdX3_sightings ⟨Nat.le_of_ble_eq_true rfl, Nat.le_of_ble_eq_true rfl⟩) (x_preV hK (x_recv hK (hxo) rfl)) rfl rfl hl.1 rfl (lv_room (Nat.le_of_ble_eq_true rfl)) dX3_countOf_49 ⟨Nat.le_of_ble_eq_true rfl, Nat.le_of_ble_eq_true rfl⟩) ?_
    exact x_rdi hQ hx hb hr rfl hlk (rfl) dX3_countOf_52
  · refine lv_tableIn (off := 52) (tgt := 53) hx hb dX3_countOf_1 (by decide) (by decide) (by decide) (by decide) ?_
    refine lv_aload_n hx hb dX3_countOf_53 rfl (lv_at hl 0 rfl) ?_
    refine x_rd (va_runV (As := []) (rest := []) hC (c_X3_unseenHalos (hxo) (hcr) hg ho) (cwV 0 hts gX3_countOf_X3_unseenHalos rfl rfl rfl qdX3_unseenHalos ⟨Nat.le_of_ble_eq_true rfl, Nat.le_of_ble_eq_true rfl⟩) (x_preV hK (x_recv hK (hxo) rfl)) rfl rfl hl.1 rfl (lv_room (Nat.le_of_ble_eq_true rfl)) dX3_countOf_54 ⟨Nat.le_of_ble_eq_true rfl, Nat.le_of_ble_eq_true rfl⟩) ?_
    exact x_rdi hQ hx hb hr rfl hlk (rfl) dX3_countOf_57
  · refine lv_tableOut (tgt := 58) hx hb dX3_countOf_1 (by decide) (by decide) ?_
    refine lv_aload_n hx hb dX3_countOf_58 rfl (lv_at hl 0 rfl) ?_
    refine x_rd (va_runV (As := []) (rest := []) hC (c_X3_allClouds (hxo) (hcr) hg) (cwV 0 hts gX3_countOf_X3_allClouds rfl rfl rfl qdX3_allClouds ⟨Nat.le_of_ble_eq_true rfl, Nat.le_of_ble_eq_true rfl⟩) (x_preV hK (x_recv hK (hxo) rfl)) rfl rfl hl.1 rfl (lv_room (Nat.le_of_ble_eq_true rfl)) dX3_countOf_59 ⟨Nat.le_of_ble_eq_true rfl, Nat.le_of_ble_eq_true rfl⟩) ?_
    exact x_rdi hQ hx hb hr rfl hlk (rfl) dX3_countOf_62
