theorem rowS_upd {f : Nat → Nat → Int32} {a b : Nat} {v : Nat → Int32} {l : List Int32} (h : a < b) (hv : ls' v (l ++ rowS f a b).length = l ++ rowS f a b) : ls' (upd v (l ++ rowS f a b).length (f a b)) (l ++ rowS f a (b + 1)).length = l ++ rowS f a (b + 1) := by
  have e : l ++ rowS f a (b + 1) = (l ++ rowS f a b) ++ [f a b] := by rw [rowS_succ f h, List.append_assoc]
  have e2 : ((l ++ rowS f a b) ++ [f a b]).length = (l ++ rowS f a b).length + 1 := @List.length_append _ (l ++ rowS f a b) [f a b]
  rw [e, e2]
  exact (ls'_upd v _ _).trans (by rw [hv])
abbrev mR (mi : Nat → Int32) (x y z : Int32) : Nat → Int32 := va_up (va_up (va_up mi 3 x) 4 y) 5 z
abbrev aR (ma : Nat → Nat → Int32) (s r v : Nat → Int32) : Nat → Nat → Int32 := va_up (va_up (va_up ma 2 s) 3 r) 4 v
theorem app_get {f : Nat → Int32} (g : Nat → Int32) {l : List Nat} {x : Nat} (h : ∀ k, k < l.length → f k = g (l.getD k 0)) : ∀ k, k < (l ++ [x]).length → upd f l.length (g x) k = g ((l ++ [x]).getD k 0) := by
  intro k hk
  rw [List.length_append] at hk
  rcases Nat.lt_or_ge k l.length with e | e
  · rw [pk_un (by omega), h k e, List.getD_eq_getElem?_getD, List.getD_eq_getElem?_getD, List.getElem?_append_left e]
  · have e2 : k = l.length := by have : ([x] : List Nat).length = 1 := rfl
                                 omega
    subst e2
    rw [pk_us, List.getD_eq_getElem?_getD, List.getElem?_append_right (Nat.le_refl _), Nat.sub_self]
    rfl
abbrev rmX4_reckon : Room := { frames := 4, cells := 0, slots := 0, locals := 92 }
theorem qdX4_reckon : yX4_reckon.cls = RX4 ∧ yX4_reckon.cls ≠ "java/lang/invoke/MethodHandle" ∧ yX4_reckon.cls ≠ "java/lang/invoke/VarHandle" ∧ (parseMethodDescriptor yX4_reckon.desc).map (fun d => d.parameters.length) = some 1 := by decide +kernel
set_option maxHeartbeats 4000000 in
set_option maxRecDepth 100000 in
theorem c_X4_reckon_a {l : Launch} {G : gT} {A : Nat → Prop} {b : Nat → Nat} {mi : Nat → Int32} {ma : Nat → Nat → Int32} {H0 : Heap} {n hn j : Nat} {o : List Nat} (hD : va_D A (mW G b mi ma)) (hg : OK n hn (ma 0) (ma 1)) (hj : j < hn) (hmn : mi 1 = nI n) (ho : IsOrd (fun s => gL (ma 0) s 0) n o) (hn12 : n ≤ 12) (hh16 : hn ≤ 16) {p : Program} {e : Env} {s : State} {m : MethodId} {below : List Frame} {meth : Method} {c : Code} {Q : State → Prop} (hx : p.tables.exec = Jvm.exec) (hb : c.code = cX4_reckon) (hml : c.maxLocals = 5) (hown : s.vm.findClass RX4 = some m.cls) (hts : ∀ w ∈ wsX4_reckon, w.before [.ref (b 0), .int (nI j)].toArray s = true) (hK : KK G s)  {H : Heap} {locs : List Loc} (ls : Array Slot) (hP : va_P (gD G) vC (mW G b (va_up mi 3 (nI 0)) ma) H) (hS : va_S A H0 H locs) (hl : lv_has ls 5 [(0, .ref (b 0)), (1, .int (nI j)), (2, .int (onI o[0]?))]) (kont : ∀ (sA : Nat → Int32) (rA : Nat → Int32) (H : Heap) (locs : List Loc) (ls : Array Slot), (∀ k, k < (sqL (ma 0) (ma 1) o j).length → sA k = nI (sq (ma 0) (ma 1) o j k)) → (∀ k, k < (sqL (ma 0) (ma 1) o j).length → rA k = (rr (ma 0) (ma 1) o j k)) → ((sqL (ma 0) (ma 1) o j).length ≤ n) → (va_P (gD G) vC (mW G b (va_up mi 3 (nI (sqL (ma 0) (ma 1) o j).length)) (va_up (va_up ma 2 sA) 3 rA)) H) → (va_S A H0 H locs) → lv_has ls 5 [(0, .ref (b 0)), (1, .int (nI j))] → W p l e rmX4_reckon s m [.ref (b 0), .int (nI j)].toArray below meth c H locs 0 0 Q (F0 m 77 ls [])) : W p l e rmX4_reckon s m [.ref (b 0), .int (nI j)].toArray below meth c H locs 0 0 Q (F0 m 11 ls []) := by
  have hC : CallFix p m c cX4_reckon 5 s [.ref (b 0), .int (nI j)].toArray wsX4_reckon RX4 := ⟨hx, hb, hml, hown, hts⟩
  have k_f16 := hts (.fieldLink RX4 16 "SundogLineModel" "seers" "[I") (by decide +kernel)
  have in_X4 : ∀ w ∈ u_ws RX4 TX4 11, w ∈ wsX4_reckon := by decide +kernel
  have k_f103 := hts (.fieldLink RX4 103 "SundogLineModel" "many" "I") (by decide +kernel)
  have k_f19 := hts (.fieldLink RX4 19 "SundogLineModel" "readings" "[I") (by decide +kernel)
  have hD : va_D A (mW G b (va_up mi 3 (nI 0)) ma) := hD.same rfl
  have hP : mP G b (va_up mi 3 (nI (sqT (ma 0) (ma 1) o j 0).length)) (va_up (va_up ma 2 (ma 2)) 3 (ma 3)) H := hP
  have hD : va_D A (mW G b (va_up mi 3 (nI (sqT (ma 0) (ma 1) o j 0).length)) (va_up (va_up ma 2 (ma 2)) 3 (ma 3))) := hD.same rfl
  have loop_1 : ∀ (fu : Nat) (x : Nat) (sA : Nat → Int32) (rA : Nat → Int32) (H : Heap) (locs : List Loc) (ls : Array Slot), n - x < fu → (x ≤ n) → (∀ k, k < (sqT (ma 0) (ma 1) o j x).length → sA k = nI ((sqT (ma 0) (ma 1) o j x).getD k 0)) → (∀ k, k < (sqT (ma 0) (ma 1) o j x).length → rA k = rdg (ma 0) (ma 1) j ((sqT (ma 0) (ma 1) o j x).getD k 0)) → (va_P (gD G) vC (mW G b (va_up mi 3 (nI (sqT (ma 0) (ma 1) o j x).length)) (va_up (va_up ma 2 sA) 3 rA)) H) → (va_S A H0 H locs) → lv_has ls 5 [(0, .ref (b 0)), (1, .int (nI j)), (2, .int (onI o[x]?))] → W p l e rmX4_reckon s m [.ref (b 0), .int (nI j)].toArray below meth c H locs 0 0 Q (F0 m 11 ls []) := by
    intro fu
    induction fu with
    | zero => intro x sA rA H locs ls hms hxn hsA hrA hP hS hl; exact absurd hms (Nat.not_lt_zero _)
    | succ fu ih_1 =>
      intro x sA rA H locs ls hms hxn hsA hrA hP hS hl
      have hD : va_D A (mW G b (va_up mi 3 (nI (sqT (ma 0) (ma 1) o j x).length)) (va_up (va_up ma 2 sA) 3 rA)) := hD.same rfl
      rcases hox : o[x]? with _ | st
      · have hl : lv_has ls 5 [(0, .ref (b 0)), (1, .int (nI j)), (2, .int ((-1)))] := by rw [hox] at hl; exact hl
        have hxe : o.length ≤ x := List.getElem?_eq_none_iff.mp hox
        have hTe := sqT_all (ma 0) (ma 1) o j hxe
        rw [hTe] at hsA hrA
        have hP : mP G b (va_up mi 3 (nI (sqL (ma 0) (ma 1) o j).length)) (va_up (va_up ma 2 sA) 3 rA) H := by rw [← hTe]; exact hP
        have hD : va_D A (mW G b (va_up mi 3 (nI (sqL (ma 0) (ma 1) o j).length)) (va_up (va_up ma 2 sA) 3 rA)) := hD.same rfl
        have hM12 : (sqL (ma 0) (ma 1) o j).length ≤ n := sqM_le ho
        refine lv_iload_n hx hb dX4_reckon_11 rfl (lv_at hl 2 rfl) ?_
        refine lv_iconst (v := (-1)) hx hb dX4_reckon_12 (by decide +kernel) ?_
        refine lv_icmp_eq (tgt := 77) hx hb dX4_reckon_13 (by decide) (fun c_2 => ?_) (fun c_2 => ?_)
        · exact kont sA rA _ _ ls (hsA) (hrA) (hM12) (hP) (hS) (lv_sub hl [0, 1] rfl)
        · exact absurd rfl c_2
      · have hl : lv_has ls 5 [(0, .ref (b 0)), (1, .int (nI j)), (2, .int (nI st))] := by rw [hox] at hl; exact hl
        have hst := ho.lt hox
        have hxl : x < n := by have q := (List.getElem?_eq_some_iff.mp hox).1; have q2 := ho.2.2; omega
        have hTs := sqT_succ (ma 0) (ma 1) o j hox
        have hTl := sqT_len (ma 0) (ma 1) o j x
        refine lv_iload_n hx hb dX4_reckon_11 rfl (lv_at hl 2 rfl) ?_
        refine lv_iconst (v := (-1)) hx hb dX4_reckon_12 (by decide +kernel) ?_
        refine lv_icmp_eq (tgt := 77) hx hb dX4_reckon_13 (by decide) (fun c_3 => ?_) (fun c_3 => ?_)
        · exact absurd c_3 (nI_m1 (by omega))
        · refine lv_aload_n hx hb dX4_reckon_16 rfl (lv_at hl 0 rfl) ?_
          refine lv_iload_n hx hb dX4_reckon_17 rfl (lv_at hl 1 rfl) ?_
          refine lv_iload_n hx hb dX4_reckon_18 rfl (lv_at hl 2 rfl) ?_
          refine x_rd (va_runV (As := [.int (nI j), .int (nI st)]) (rest := []) hC (c_X4_sees hP hg (by omega) (by omega)) (cwV 2 hts gX4_reckon_X4_sees rfl rfl rfl qdX4_sees ⟨Nat.le_of_ble_eq_true rfl, Nat.le_of_ble_eq_true rfl⟩) (x_preV hK (x_recv hK (hP 0 _ rfl) rfl)) rfl rfl hl.1 rfl (lv_room (Nat.le_of_ble_eq_true rfl)) dX4_reckon_19 ⟨Nat.le_of_ble_eq_true rfl, Nat.le_of_ble_eq_true rfl⟩) ?_
          refine W.eq (g2 := F0 m 22 ls [.int (bI (see (ma 0) (ma 1) j st))]) rfl ?_
          refine x_if_neB (tgt := 28) hx hb dX4_reckon_22 (by decide) (fun c_4 => ?_) (fun c_4 => ?_)
          · refine lv_aload_n hx hb dX4_reckon_28 rfl (lv_at hl 0 rfl) ?_
            refine x_get (T := TX4) (N := 11) (v := .ref (b 3)) hx hb hts in_X4 hown hK (hP 0 _ rfl) rfl 5 (by decide) k_f16 (fun _ h9 => h9) (rfl) dX4_reckon_29 ?_
            refine lv_aload_n hx hb dX4_reckon_32 rfl (lv_at hl 0 rfl) ?_
            refine x_get (T := TX4) (N := 11) (v := .int (nI ((sqT (ma 0) (ma 1) o j x).length))) hx hb hts in_X4 hown hK (hP 0 _ rfl) rfl 7 (by decide) k_f103 (fun _ h9 => h9) (rfl) dX4_reckon_33 ?_
            refine lv_iload_n hx hb dX4_reckon_36 rfl (lv_at hl 2 rfl) ?_
            refine x_iast hx hb hK hP hD hS 3 rfl (by omega) (by decide) dX4_reckon_37 (fun H locs hP hD hS => ?_)
            have hP : mP G b (va_up mi 3 (nI (sqT (ma 0) (ma 1) o j x).length)) (va_up (va_up ma 2 (upd sA ((sqT (ma 0) (ma 1) o j x).length) (nI st))) 3 rA) H := hP
            have hD : va_D A (mW G b (va_up mi 3 (nI (sqT (ma 0) (ma 1) o j x).length)) (va_up (va_up ma 2 (upd sA ((sqT (ma 0) (ma 1) o j x).length) (nI st))) 3 rA)) := hD
            refine lv_aload_n hx hb dX4_reckon_38 rfl (lv_at hl 0 rfl) ?_
            refine x_get (T := TX4) (N := 11) (v := .ref (b 4)) hx hb hts in_X4 hown hK (hP 0 _ rfl) rfl 6 (by decide) k_f19 (fun _ h9 => h9) (rfl) dX4_reckon_39 ?_
            refine lv_aload_n hx hb dX4_reckon_42 rfl (lv_at hl 0 rfl) ?_
            refine x_get (T := TX4) (N := 11) (v := .int (nI ((sqT (ma 0) (ma 1) o j x).length))) hx hb hts in_X4 hown hK (hP 0 _ rfl) rfl 7 (by decide) k_f103 (fun _ h9 => h9) (rfl) dX4_reckon_43 ?_
            refine lv_aload_n hx hb dX4_reckon_46 rfl (lv_at hl 0 rfl) ?_
            refine lv_iload_n hx hb dX4_reckon_47 rfl (lv_at hl 1 rfl) ?_
            refine lv_iload_n hx hb dX4_reckon_48 rfl (lv_at hl 2 rfl) ?_
            refine x_rd (va_runV (As := [.int (nI j), .int (nI st)]) (rest := [.int (nI ((sqT (ma 0) (ma 1) o j x).length)), .ref (b 4)]) hC (c_X4_readingOf hP hg (by omega) (by omega)) (cwV 2 hts gX4_reckon_X4_readingOf rfl rfl rfl qdX4_readingOf ⟨Nat.le_of_ble_eq_true rfl, Nat.le_of_ble_eq_true rfl⟩) (x_preV hK (x_recv hK (hP 0 _ rfl) rfl)) rfl rfl hl.1 rfl (lv_room (Nat.le_of_ble_eq_true rfl)) dX4_reckon_49 ⟨Nat.le_of_ble_eq_true rfl, Nat.le_of_ble_eq_true rfl⟩) ?_
            refine W.eq (g2 := F0 m 52 ls [.int (rdg (ma 0) (ma 1) j st), .int (nI ((sqT (ma 0) (ma 1) o j x).length)), .ref (b 4)]) rfl ?_
            refine x_iast hx hb hK hP hD hS 4 rfl (by omega) (by decide) dX4_reckon_52 (fun H locs hP hD hS => ?_)
            have hP : mP G b (va_up mi 3 (nI (sqT (ma 0) (ma 1) o j x).length)) (va_up (va_up ma 2 (upd sA ((sqT (ma 0) (ma 1) o j x).length) (nI st))) 3 (upd rA ((sqT (ma 0) (ma 1) o j x).length) (rdg (ma 0) (ma 1) j st))) H := hP
            have hD : va_D A (mW G b (va_up mi 3 (nI (sqT (ma 0) (ma 1) o j x).length)) (va_up (va_up ma 2 (upd sA ((sqT (ma 0) (ma 1) o j x).length) (nI st))) 3 (upd rA ((sqT (ma 0) (ma 1) o j x).length) (rdg (ma 0) (ma 1) j st)))) := hD
            refine lv_aload_n hx hb dX4_reckon_53 rfl (lv_at hl 0 rfl) ?_
            refine lv_dup hx hb dX4_reckon_54 rfl ?_
            refine x_get (T := TX4) (N := 11) (v := .int (nI ((sqT (ma 0) (ma 1) o j x).length))) hx hb hts in_X4 hown hK (hP 0 _ rfl) rfl 7 (by decide) k_f103 (fun _ h9 => h9) (rfl) dX4_reckon_55 ?_
            refine lv_iconst (v := nI 1) hx hb dX4_reckon_58 (by decide +kernel) ?_
            refine x_iaddN hx hb dX4_reckon_59 ?_
            refine va_put (D := gD G) (ci := 4) (v := .int (nI (((sqT (ma 0) (ma 1) o j x).length) + 1))) (ty := .int) (C := RX4) (T := TX4) (N := 11) hx hb hts in_X4 tyX4 tyX4_ok nmX4 hown hK hP hD hS 0 rfl rfl 7 (by decide) k_f103 (fun _ h9 => h9) rfl (by decide +kernel) rfl rfl (Nat.le_of_ble_eq_true rfl) dX4_reckon_60 (fun H locs hP hD hS => ?_)
            have hP : mP G b (va_up mi 3 (nI (((sqT (ma 0) (ma 1) o j x).length) + 1))) (va_up (va_up ma 2 (upd sA ((sqT (ma 0) (ma 1) o j x).length) (nI st))) 3 (upd rA ((sqT (ma 0) (ma 1) o j x).length) (rdg (ma 0) (ma 1) j st))) H := hP
            have hD : va_D A (mW G b (va_up mi 3 (nI (((sqT (ma 0) (ma 1) o j x).length) + 1))) (va_up (va_up ma 2 (upd sA ((sqT (ma 0) (ma 1) o j x).length) (nI st))) 3 (upd rA ((sqT (ma 0) (ma 1) o j x).length) (rdg (ma 0) (ma 1) j st)))) := hD
            refine lv_aload_n hx hb dX4_reckon_63 rfl (lv_at hl 0 rfl) ?_
            refine lv_aload_n hx hb dX4_reckon_64 rfl (lv_at hl 0 rfl) ?_
            refine lv_iload_n hx hb dX4_reckon_65 rfl (lv_at hl 2 rfl) ?_
            refine lv_iconst (v := nI 0) hx hb dX4_reckon_66 (by decide +kernel) ?_
            refine x_rd (va_runV (As := [.int (nI st), .int (nI 0)]) (rest := [.ref (b 0)]) hC (c_X4_get hP (by omega) (by omega)) (cwV 2 hts gX4_reckon_X4_get rfl rfl rfl qdX4_get ⟨Nat.le_of_ble_eq_true rfl, Nat.le_of_ble_eq_true rfl⟩) (x_preV hK (x_recv hK (hP 0 _ rfl) rfl)) rfl rfl hl.1 rfl (lv_room (Nat.le_of_ble_eq_true rfl)) dX4_reckon_67 ⟨Nat.le_of_ble_eq_true rfl, Nat.le_of_ble_eq_true rfl⟩) ?_
            refine W.eq (g2 := F0 m 70 ls [.int (gL (ma 0) st 0), .ref (b 0)]) rfl ?_
            refine x_rd (va_runV (As := [.int (gL (ma 0) st 0)]) (rest := []) hC (c_X4_next hP hmn hn12) (cwV 1 hts gX4_reckon_X4_next rfl rfl rfl qdX4_next ⟨Nat.le_of_ble_eq_true rfl, Nat.le_of_ble_eq_true rfl⟩) (x_preV hK (x_recv hK (hP 0 _ rfl) rfl)) rfl rfl hl.1 rfl (lv_room (Nat.le_of_ble_eq_true rfl)) dX4_reckon_70 ⟨Nat.le_of_ble_eq_true rfl, Nat.le_of_ble_eq_true rfl⟩) ?_
            refine W.eq (g2 := F0 m 73 ls [.int (onI (nx (fun s => gL (ma 0) s 0) (gL (ma 0) st 0) n))]) rfl ?_
            refine W.eq (g2 := F0 m 73 ls [.int (onI o[x + 1]?)]) (congrArg (fun z => F0 m 73 ls (.int z :: [])) (congrArg onI (nx_next ho hox))) ?_
            refine lv_istore_n (lv' := [(2, .int (onI o[x + 1]?)), (0, .ref (b 0)), (1, .int (nI j))]) hx hb dX4_reckon_73 rfl hl (by decide) rfl (fun ls hl => ?_)
            refine lv_goto (tgt := 11) hx hb dX4_reckon_74 (by decide) ?_
            have hP : mP G b (va_up mi 3 (nI (sqT (ma 0) (ma 1) o j (x + 1)).length)) (va_up (va_up ma 2 (upd sA ((sqT (ma 0) (ma 1) o j x).length) (nI st))) 3 (upd rA ((sqT (ma 0) (ma 1) o j x).length) (rdg (ma 0) (ma 1) j st))) H := by rw [hTs, if_pos c_4, List.length_append]; exact hP
            have hD : va_D A (mW G b (va_up mi 3 (nI (sqT (ma 0) (ma 1) o j (x + 1)).length)) (va_up (va_up ma 2 (upd sA ((sqT (ma 0) (ma 1) o j x).length) (nI st))) 3 (upd rA ((sqT (ma 0) (ma 1) o j x).length) (rdg (ma 0) (ma 1) j st)))) := hD.same rfl
            exact ih_1 (x + 1) (upd sA (sqT (ma 0) (ma 1) o j x).length (nI st)) (upd rA (sqT (ma 0) (ma 1) o j x).length (rdg (ma 0) (ma 1) j st)) _ _ ls (by omega) (by omega) (by rw [hTs, if_pos c_4]; exact app_get nI hsA) (by rw [hTs, if_pos c_4]; exact app_get (rdg (ma 0) (ma 1) j) hrA) (hP) (hS) (lv_sub hl [1, 2, 0] rfl)
          · refine lv_goto (tgt := 63) hx hb dX4_reckon_25 (by decide) ?_
            refine lv_aload_n hx hb dX4_reckon_63 rfl (lv_at hl 0 rfl) ?_
            refine lv_aload_n hx hb dX4_reckon_64 rfl (lv_at hl 0 rfl) ?_
            refine lv_iload_n hx hb dX4_reckon_65 rfl (lv_at hl 2 rfl) ?_
            refine lv_iconst (v := nI 0) hx hb dX4_reckon_66 (by decide +kernel) ?_
            refine x_rd (va_runV (As := [.int (nI st), .int (nI 0)]) (rest := [.ref (b 0)]) hC (c_X4_get hP (by omega) (by omega)) (cwV 2 hts gX4_reckon_X4_get rfl rfl rfl qdX4_get ⟨Nat.le_of_ble_eq_true rfl, Nat.le_of_ble_eq_true rfl⟩) (x_preV hK (x_recv hK (hP 0 _ rfl) rfl)) rfl rfl hl.1 rfl (lv_room (Nat.le_of_ble_eq_true rfl)) dX4_reckon_67 ⟨Nat.le_of_ble_eq_true rfl, Nat.le_of_ble_eq_true rfl⟩) ?_
            refine W.eq (g2 := F0 m 70 ls [.int (gL (ma 0) st 0), .ref (b 0)]) rfl ?_
            refine x_rd (va_runV (As := [.int (gL (ma 0) st 0)]) (rest := []) hC (c_X4_next hP hmn hn12) (cwV 1 hts gX4_reckon_X4_next rfl rfl rfl qdX4_next ⟨Nat.le_of_ble_eq_true rfl, Nat.le_of_ble_eq_true rfl⟩) (x_preV hK (x_recv hK (hP 0 _ rfl) rfl)) rfl rfl hl.1 rfl (lv_room (Nat.le_of_ble_eq_true rfl)) dX4_reckon_70 ⟨Nat.le_of_ble_eq_true rfl, Nat.le_of_ble_eq_true rfl⟩) ?_
            refine W.eq (g2 := F0 m 73 ls [.int (onI (nx (fun s => gL (ma 0) s 0) (gL (ma 0) st 0) n))]) rfl ?_
            refine W.eq (g2 := F0 m 73 ls [.int (onI o[x + 1]?)]) (congrArg (fun z => F0 m 73 ls (.int z :: [])) (congrArg onI (nx_next ho hox))) ?_
            refine lv_istore_n (lv' := [(2, .int (onI o[x + 1]?)), (0, .ref (b 0)), (1, .int (nI j))]) hx hb dX4_reckon_73 rfl hl (by decide) rfl (fun ls hl => ?_)
            refine lv_goto (tgt := 11) hx hb dX4_reckon_74 (by decide) ?_
            have hP : mP G b (va_up mi 3 (nI (sqT (ma 0) (ma 1) o j (x + 1)).length)) (va_up (va_up ma 2 sA) 3 rA) H := by rw [hTs, if_neg (by rw [c_4]; decide), List.append_nil]; exact hP
            have hD : va_D A (mW G b (va_up mi 3 (nI (sqT (ma 0) (ma 1) o j (x + 1)).length)) (va_up (va_up ma 2 sA) 3 rA)) := hD.same rfl
            exact ih_1 (x + 1) sA rA _ _ ls (by omega) (by omega) (by rw [hTs, if_neg (by rw [c_4]; decide), List.append_nil]; exact hsA) (by rw [hTs, if_neg (by rw [c_4]; decide), List.append_nil]; exact hrA) (hP) (hS) (lv_sub hl [1, 2, 0] rfl)
  exact loop_1 _ 0 (ma 2) (ma 3) _ _ ls (Nat.lt_succ_self _) (Nat.zero_le _) (fun k hk => absurd hk (Nat.not_lt_zero _)) (fun k hk => absurd hk (Nat.not_lt_zero _)) (hP) (hS) (lv_sub hl [0, 1, 2] rfl)
set_option maxHeartbeats 4000000 in
set_option maxRecDepth 100000 in
theorem c_X4_reckon_b {l : Launch} {G : gT} {A : Nat → Prop} {b : Nat → Nat} {mi : Nat → Int32} {ma : Nat → Nat → Int32} {H0 : Heap} {n hn j : Nat} {o : List Nat} (hD : va_D A (mW G b mi ma)) (hg : OK n hn (ma 0) (ma 1)) (hj : j < hn) (hmn : mi 1 = nI n) (ho : IsOrd (fun s => gL (ma 0) s 0) n o) (hn12 : n ≤ 12) (hh16 : hn ≤ 16) {p : Program} {e : Env} {s : State} {m : MethodId} {below : List Frame} {meth : Method} {c : Code} {Q : State → Prop} (hx : p.tables.exec = Jvm.exec) (hb : c.code = cX4_reckon) (hml : c.maxLocals = 5) (hown : s.vm.findClass RX4 = some m.cls) (hts : ∀ w ∈ wsX4_reckon, w.before [.ref (b 0), .int (nI j)].toArray s = true) (hK : KK G s) {un : Int32} {sA : Nat → Int32} {rA : Nat → Int32} {H : Heap} {locs : List Loc} (ls : Array Slot) (hsA : ∀ k, k < (sqL (ma 0) (ma 1) o j).length → sA k = nI (sq (ma 0) (ma 1) o j k)) (hrA : ∀ k, k < (sqL (ma 0) (ma 1) o j).length → rA k = (rr (ma 0) (ma 1) o j k)) (hM12 : (sqL (ma 0) (ma 1) o j).length ≤ n) (hM2 : 2 ≤ (sqL (ma 0) (ma 1) o j).length) (hP : va_P (gD G) vC (mW G b (va_up (va_up (va_up mi 3 (nI (sqL (ma 0) (ma 1) o j).length)) 4 un) 5 un) (va_up (va_up ma 2 sA) 3 rA)) H) (hS : va_S A H0 H locs) (hl : lv_has ls 5 [(0, .ref (b 0)), (1, .int (nI j))]) (kont : ∀ (v : Nat → Int32) (H : Heap) (locs : List Loc) (ls : Array Slot), (ls' v (allS (sv (ma 0) (ma 1) o j) (sqL (ma 0) (ma 1) o j).length (sqL (ma 0) (ma 1) o j).length).length = allS (sv (ma 0) (ma 1) o j) (sqL (ma 0) (ma 1) o j).length (sqL (ma 0) (ma 1) o j).length) → (va_P (gD G) vC (mW G b (va_up (va_up (va_up mi 3 (nI (sqL (ma 0) (ma 1) o j).length)) 4 un) 5 un) (va_up (va_up (va_up ma 2 sA) 3 rA) 4 v)) H) → (va_S A H0 H locs) → lv_has ls 5 [(0, .ref (b 0)), (1, .int (nI j)), (2, .int (nI ((allS (sv (ma 0) (ma 1) o j) (sqL (ma 0) (ma 1) o j).length (sqL (ma 0) (ma 1) o j).length).length)))] → W p l e rmX4_reckon s m [.ref (b 0), .int (nI j)].toArray below meth c H locs 0 0 Q (F0 m 187 ls [])) : W p l e rmX4_reckon s m [.ref (b 0), .int (nI j)].toArray below meth c H locs 0 0 Q (F0 m 98 ls []) := by
  have hC : CallFix p m c cX4_reckon 5 s [.ref (b 0), .int (nI j)].toArray wsX4_reckon RX4 := ⟨hx, hb, hml, hown, hts⟩
  have k_f103 := hts (.fieldLink RX4 103 "SundogLineModel" "many" "I") (by decide +kernel)
  have in_X4 : ∀ w ∈ u_ws RX4 TX4 11, w ∈ wsX4_reckon := by decide +kernel
  have k_f22 := hts (.fieldLink RX4 22 "SundogLineModel" "values" "[I") (by decide +kernel)
  have k_f19 := hts (.fieldLink RX4 19 "SundogLineModel" "readings" "[I") (by decide +kernel)
  have k_f16 := hts (.fieldLink RX4 16 "SundogLineModel" "seers" "[I") (by decide +kernel)
  have hD : va_D A (mW G b (va_up (va_up (va_up mi 3 (nI (sqL (ma 0) (ma 1) o j).length)) 4 un) 5 un) (va_up (va_up ma 2 sA) 3 rA)) := hD.same rfl
  refine lv_iconst (v := nI 0) hx hb dX4_reckon_98 (by decide +kernel) ?_
  refine lv_istore_n (lv' := [(2, .int (nI 0)), (0, .ref (b 0)), (1, .int (nI j))]) hx hb dX4_reckon_99 rfl hl (by decide) rfl (fun ls hl => ?_)
  refine lv_iconst (v := nI 0) hx hb dX4_reckon_100 (by decide +kernel) ?_
  refine lv_istore_n (lv' := [(3, .int (nI 0)), (2, .int (nI 0)), (0, .ref (b 0)), (1, .int (nI j))]) hx hb dX4_reckon_101 rfl hl (by decide) rfl (fun ls hl => ?_)
  have hP : mP G b (va_up (va_up (va_up mi 3 (nI (sqL (ma 0) (ma 1) o j).length)) 4 un) 5 un) (va_up (va_up (va_up ma 2 sA) 3 rA) 4 (ma 4)) H := hP
  have hD : va_D A (mW G b (va_up (va_up (va_up mi 3 (nI (sqL (ma 0) (ma 1) o j).length)) 4 un) 5 un) (va_up (va_up (va_up ma 2 sA) 3 rA) 4 (ma 4))) := hD.same rfl
  have loop_1 : ∀ (fu : Nat) (a : Nat) (v : Nat → Int32) (H : Heap) (locs : List Loc) (ls : Array Slot), (sqL (ma 0) (ma 1) o j).length - a < fu → (a ≤ (sqL (ma 0) (ma 1) o j).length) → (ls' v (allS (sv (ma 0) (ma 1) o j) (sqL (ma 0) (ma 1) o j).length a).length = (allS (sv (ma 0) (ma 1) o j) (sqL (ma 0) (ma 1) o j).length a)) → (va_P (gD G) vC (mW G b (va_up (va_up (va_up mi 3 (nI (sqL (ma 0) (ma 1) o j).length)) 4 un) 5 un) (va_up (va_up (va_up ma 2 sA) 3 rA) 4 v)) H) → (va_S A H0 H locs) → lv_has ls 5 [(0, .ref (b 0)), (1, .int (nI j)), (2, .int (nI ((allS (sv (ma 0) (ma 1) o j) (sqL (ma 0) (ma 1) o j).length a).length))), (3, .int (nI a))] → W p l e rmX4_reckon s m [.ref (b 0), .int (nI j)].toArray below meth c H locs 0 0 Q (F0 m 102 ls []) := by
    intro fu
    induction fu with
    | zero => intro a v H locs ls hms ha hv hP hS hl; exact absurd hms (Nat.not_lt_zero _)
    | succ fu ih_1 =>
      intro a v H locs ls hms ha hv hP hS hl
      have hD : va_D A (mW G b (va_up (va_up (va_up mi 3 (nI (sqL (ma 0) (ma 1) o j).length)) 4 un) 5 un) (va_up (va_up (va_up ma 2 sA) 3 rA) 4 v)) := hD.same rfl
      refine lv_iload_n hx hb dX4_reckon_102 rfl (lv_at hl 3 rfl) ?_
      refine lv_aload_n hx hb dX4_reckon_103 rfl (lv_at hl 0 rfl) ?_
      refine x_get (T := TX4) (N := 11) (v := .int (nI ((sqL (ma 0) (ma 1) o j).length))) hx hb hts in_X4 hown hK (hP 0 _ rfl) rfl 7 (by decide) k_f103 (fun _ h9 => h9) (rfl) dX4_reckon_104 ?_
      refine x_icmp_ge (tgt := 187) hx hb (by omega) (by omega) dX4_reckon_107 (by decide) (fun c_2 => ?_) (fun c_2 => ?_)
      · have hl : lv_has ls 5 [(0, .ref (b 0)), (1, .int (nI j)), (2, .int (nI ((allS (sv (ma 0) (ma 1) o j) (sqL (ma 0) (ma 1) o j).length (sqL (ma 0) (ma 1) o j).length).length))), (3, .int (nI a))] := by
          have e9 : (allS (sv (ma 0) (ma 1) o j) (sqL (ma 0) (ma 1) o j).length (sqL (ma 0) (ma 1) o j).length).length = (allS (sv (ma 0) (ma 1) o j) (sqL (ma 0) (ma 1) o j).length a).length := by rw [show a = (sqL (ma 0) (ma 1) o j).length by omega]
          rw [e9]; exact hl
        exact kont v _ _ ls (by have e : a = (sqL (ma 0) (ma 1) o j).length := (by omega); rw [e] at hv; exact hv) (hP) (hS) (lv_sub hl [0, 1, 2] rfl)
      · refine lv_iload_n hx hb dX4_reckon_110 rfl (lv_at hl 3 rfl) ?_
        refine lv_iconst (v := nI 1) hx hb dX4_reckon_111 (by decide +kernel) ?_
        refine x_iaddN hx hb dX4_reckon_112 ?_
        refine lv_istore (lv' := [(4, .int (nI (a + 1))), (0, .ref (b 0)), (1, .int (nI j)), (2, .int (nI ((allS (sv (ma 0) (ma 1) o j) (sqL (ma 0) (ma 1) o j).length a).length))), (3, .int (nI a))]) hx hb dX4_reckon_113 hl (by decide) rfl (fun ls hl => ?_)
        have hl : lv_has ls 5 [(4, .int (nI (a + 1))), (0, .ref (b 0)), (1, .int (nI j)), (2, .int (nI ((allS (sv (ma 0) (ma 1) o j) (sqL (ma 0) (ma 1) o j).length a ++ rowS (sv (ma 0) (ma 1) o j) a (a + 1)).length))), (3, .int (nI a))] := by
          have e9 : (allS (sv (ma 0) (ma 1) o j) (sqL (ma 0) (ma 1) o j).length a ++ rowS (sv (ma 0) (ma 1) o j) a (a + 1)).length = (allS (sv (ma 0) (ma 1) o j) (sqL (ma 0) (ma 1) o j).length a).length := by rw [rowS_0 (sv (ma 0) (ma 1) o j) a (a + 1) (Nat.le_refl _), List.append_nil]
          rw [e9]; exact hl
        have loop_3 : ∀ (fu : Nat) (bb : Nat) (v : Nat → Int32) (H : Heap) (locs : List Loc) (ls : Array Slot), (sqL (ma 0) (ma 1) o j).length - bb < fu → (a + 1 ≤ bb) → (bb ≤ (sqL (ma 0) (ma 1) o j).length) → (ls' v (allS (sv (ma 0) (ma 1) o j) (sqL (ma 0) (ma 1) o j).length a ++ rowS (sv (ma 0) (ma 1) o j) a bb).length = (allS (sv (ma 0) (ma 1) o j) (sqL (ma 0) (ma 1) o j).length a ++ rowS (sv (ma 0) (ma 1) o j) a bb)) → (va_P (gD G) vC (mW G b (va_up (va_up (va_up mi 3 (nI (sqL (ma 0) (ma 1) o j).length)) 4 un) 5 un) (va_up (va_up (va_up ma 2 sA) 3 rA) 4 v)) H) → (va_S A H0 H locs) → lv_has ls 5 [(0, .ref (b 0)), (1, .int (nI j)), (2, .int (nI ((allS (sv (ma 0) (ma 1) o j) (sqL (ma 0) (ma 1) o j).length a ++ rowS (sv (ma 0) (ma 1) o j) a bb).length))), (3, .int (nI a)), (4, .int (nI bb))] → W p l e rmX4_reckon s m [.ref (b 0), .int (nI j)].toArray below meth c H locs 0 0 Q (F0 m 115 ls []) := by
          intro fu
          induction fu with
          | zero => intro bb v H locs ls hms hbb hbM hv hP hS hl; exact absurd hms (Nat.not_lt_zero _)
          | succ fu ih_3 =>
            intro bb v H locs ls hms hbb hbM hv hP hS hl
            have hD : va_D A (mW G b (va_up (va_up (va_up mi 3 (nI (sqL (ma 0) (ma 1) o j).length)) 4 un) 5 un) (va_up (va_up (va_up ma 2 sA) 3 rA) 4 v)) := hD.same rfl
            refine lv_iload hx hb dX4_reckon_115 (lv_at hl 4 rfl) ?_
            refine lv_aload_n hx hb dX4_reckon_117 rfl (lv_at hl 0 rfl) ?_
            refine x_get (T := TX4) (N := 11) (v := .int (nI ((sqL (ma 0) (ma 1) o j).length))) hx hb hts in_X4 hown hK (hP 0 _ rfl) rfl 7 (by decide) k_f103 (fun _ h9 => h9) (rfl) dX4_reckon_118 ?_
            refine x_icmp_ge (tgt := 181) hx hb (by omega) (by omega) dX4_reckon_121 (by decide) (fun c_4 => ?_) (fun c_4 => ?_)
            · have hl : lv_has ls 5 [(0, .ref (b 0)), (1, .int (nI j)), (2, .int (nI ((allS (sv (ma 0) (ma 1) o j) (sqL (ma 0) (ma 1) o j).length (a + 1)).length))), (3, .int (nI a)), (4, .int (nI bb))] := by
                have e9 : (allS (sv (ma 0) (ma 1) o j) (sqL (ma 0) (ma 1) o j).length (a + 1)).length = (allS (sv (ma 0) (ma 1) o j) (sqL (ma 0) (ma 1) o j).length a ++ rowS (sv (ma 0) (ma 1) o j) a bb).length := by rw [show bb = (sqL (ma 0) (ma 1) o j).length by omega]; rfl
                rw [e9]; exact hl
              refine lv_iinc (v := nI (a + 1)) (lv' := [(3, .int (nI (a + 1))), (0, .ref (b 0)), (1, .int (nI j)), (2, .int (nI ((allS (sv (ma 0) (ma 1) o j) (sqL (ma 0) (ma 1) o j).length (a + 1)).length))), (4, .int (nI bb))]) hx hb dX4_reckon_181 hl (k := 3) rfl (nI_incn _) (by decide) rfl (fun ls hl => ?_)
              refine lv_goto (tgt := 102) hx hb dX4_reckon_184 (by decide) ?_
              exact ih_1 (a + 1) v _ _ ls (by omega) (by omega) (by have e : bb = (sqL (ma 0) (ma 1) o j).length := (by omega); rw [e] at hv; exact hv) (hP) (hS) (lv_sub hl [1, 2, 3, 0] rfl)
            · have hbl : bb < (sqL (ma 0) (ma 1) o j).length := by omega
              have hal : a < (sqL (ma 0) (ma 1) o j).length := by omega
              have hqb : (sq (ma 0) (ma 1) o j bb) < n := sq_lt ho hbl
              have hqa : (sq (ma 0) (ma 1) o j a) < n := sq_lt ho hal
              refine lv_aload_n hx hb dX4_reckon_124 rfl (lv_at hl 0 rfl) ?_
              refine x_get (T := TX4) (N := 11) (v := .ref (b 5)) hx hb hts in_X4 hown hK (hP 0 _ rfl) rfl 10 (by decide) k_f22 (fun _ h9 => h9) (rfl) dX4_reckon_125 ?_
              refine lv_iload_n hx hb dX4_reckon_128 rfl (lv_at hl 2 rfl) ?_
              refine lv_bipush (v := nI 100) hx hb dX4_reckon_129 (by decide +kernel) ?_
              refine lv_aload_n hx hb dX4_reckon_131 rfl (lv_at hl 0 rfl) ?_
              refine x_get (T := TX4) (N := 11) (v := .ref (b 4)) hx hb hts in_X4 hown hK (hP 0 _ rfl) rfl 6 (by decide) k_f19 (fun _ h9 => h9) (rfl) dX4_reckon_132 ?_
              refine lv_iload hx hb dX4_reckon_135 (lv_at hl 4 rfl) ?_
              refine x_ialdN hx hb hK (hP 4 _ rfl) (by omega) (by decide) dX4_reckon_137 ?_
              refine W.eq (g2 := F0 m 138 ls [.int ((rr (ma 0) (ma 1) o j bb)), .int (nI 100), .int (nI ((allS (sv (ma 0) (ma 1) o j) (sqL (ma 0) (ma 1) o j).length a ++ rowS (sv (ma 0) (ma 1) o j) a bb).length)), .ref (b 5)]) (congrArg (fun z => F0 m 138 ls (.int z :: [.int (nI 100), .int (nI ((allS (sv (ma 0) (ma 1) o j) (sqL (ma 0) (ma 1) o j).length a ++ rowS (sv (ma 0) (ma 1) o j) a bb).length)), .ref (b 5)])) (hrA bb hbl)) ?_
              refine lv_aload_n hx hb dX4_reckon_138 rfl (lv_at hl 0 rfl) ?_
              refine x_get (T := TX4) (N := 11) (v := .ref (b 4)) hx hb hts in_X4 hown hK (hP 0 _ rfl) rfl 6 (by decide) k_f19 (fun _ h9 => h9) (rfl) dX4_reckon_139 ?_
              refine lv_iload_n hx hb dX4_reckon_142 rfl (lv_at hl 3 rfl) ?_
              refine x_ialdN hx hb hK (hP 4 _ rfl) (by omega) (by decide) dX4_reckon_143 ?_
              refine W.eq (g2 := F0 m 144 ls [.int ((rr (ma 0) (ma 1) o j a)), .int ((rr (ma 0) (ma 1) o j bb)), .int (nI 100), .int (nI ((allS (sv (ma 0) (ma 1) o j) (sqL (ma 0) (ma 1) o j).length a ++ rowS (sv (ma 0) (ma 1) o j) a bb).length)), .ref (b 5)]) (congrArg (fun z => F0 m 144 ls (.int z :: [.int ((rr (ma 0) (ma 1) o j bb)), .int (nI 100), .int (nI ((allS (sv (ma 0) (ma 1) o j) (sqL (ma 0) (ma 1) o j).length a ++ rowS (sv (ma 0) (ma 1) o j) a bb).length)), .ref (b 5)])) (hrA a hal)) ?_
              refine lv_isub hx hb dX4_reckon_144 ?_
              refine lv_imul hx hb dX4_reckon_145 ?_
              refine lv_aload_n hx hb dX4_reckon_146 rfl (lv_at hl 0 rfl) ?_
              refine lv_aload_n hx hb dX4_reckon_147 rfl (lv_at hl 0 rfl) ?_
              refine x_get (T := TX4) (N := 11) (v := .ref (b 3)) hx hb hts in_X4 hown hK (hP 0 _ rfl) rfl 5 (by decide) k_f16 (fun _ h9 => h9) (rfl) dX4_reckon_148 ?_
              refine lv_iload hx hb dX4_reckon_151 (lv_at hl 4 rfl) ?_
              refine x_ialdN hx hb hK (hP 3 _ rfl) (by omega) (by decide) dX4_reckon_153 ?_
              refine W.eq (g2 := F0 m 154 ls [.int (nI (sq (ma 0) (ma 1) o j bb)), .ref (b 0), .int ((nI 100) * ((rr (ma 0) (ma 1) o j bb) - (rr (ma 0) (ma 1) o j a))), .int (nI ((allS (sv (ma 0) (ma 1) o j) (sqL (ma 0) (ma 1) o j).length a ++ rowS (sv (ma 0) (ma 1) o j) a bb).length)), .ref (b 5)]) (congrArg (fun z => F0 m 154 ls (.int z :: [.ref (b 0), .int ((nI 100) * ((rr (ma 0) (ma 1) o j bb) - (rr (ma 0) (ma 1) o j a))), .int (nI ((allS (sv (ma 0) (ma 1) o j) (sqL (ma 0) (ma 1) o j).length a ++ rowS (sv (ma 0) (ma 1) o j) a bb).length)), .ref (b 5)])) (hsA bb hbl)) ?_
              refine lv_iconst (v := nI 0) hx hb dX4_reckon_154 (by decide +kernel) ?_
              refine x_rd (va_runV (As := [.int (nI (sq (ma 0) (ma 1) o j bb)), .int (nI 0)]) (rest := [.int ((nI 100) * ((rr (ma 0) (ma 1) o j bb) - (rr (ma 0) (ma 1) o j a))), .int (nI ((allS (sv (ma 0) (ma 1) o j) (sqL (ma 0) (ma 1) o j).length a ++ rowS (sv (ma 0) (ma 1) o j) a bb).length)), .ref (b 5)]) hC (c_X4_get hP (by omega) (by omega)) (cwV 2 hts gX4_reckon_X4_get rfl rfl rfl qdX4_get ⟨Nat.le_of_ble_eq_true rfl, Nat.le_of_ble_eq_true rfl⟩) (x_preV hK (x_recv hK (hP 0 _ rfl) rfl)) rfl rfl hl.1 rfl (lv_room (Nat.le_of_ble_eq_true rfl)) dX4_reckon_155 ⟨Nat.le_of_ble_eq_true rfl, Nat.le_of_ble_eq_true rfl⟩) ?_
              refine W.eq (g2 := F0 m 158 ls [.int (gL (ma 0) (sq (ma 0) (ma 1) o j bb) 0), .int ((nI 100) * ((rr (ma 0) (ma 1) o j bb) - (rr (ma 0) (ma 1) o j a))), .int (nI ((allS (sv (ma 0) (ma 1) o j) (sqL (ma 0) (ma 1) o j).length a ++ rowS (sv (ma 0) (ma 1) o j) a bb).length)), .ref (b 5)]) rfl ?_
              refine lv_aload_n hx hb dX4_reckon_158 rfl (lv_at hl 0 rfl) ?_
              refine lv_aload_n hx hb dX4_reckon_159 rfl (lv_at hl 0 rfl) ?_
              refine x_get (T := TX4) (N := 11) (v := .ref (b 3)) hx hb hts in_X4 hown hK (hP 0 _ rfl) rfl 5 (by decide) k_f16 (fun _ h9 => h9) (rfl) dX4_reckon_160 ?_
              refine lv_iload_n hx hb dX4_reckon_163 rfl (lv_at hl 3 rfl) ?_
              refine x_ialdN hx hb hK (hP 3 _ rfl) (by omega) (by decide) dX4_reckon_164 ?_
              refine W.eq (g2 := F0 m 165 ls [.int (nI (sq (ma 0) (ma 1) o j a)), .ref (b 0), .int (gL (ma 0) (sq (ma 0) (ma 1) o j bb) 0), .int ((nI 100) * ((rr (ma 0) (ma 1) o j bb) - (rr (ma 0) (ma 1) o j a))), .int (nI ((allS (sv (ma 0) (ma 1) o j) (sqL (ma 0) (ma 1) o j).length a ++ rowS (sv (ma 0) (ma 1) o j) a bb).length)), .ref (b 5)]) (congrArg (fun z => F0 m 165 ls (.int z :: [.ref (b 0), .int (gL (ma 0) (sq (ma 0) (ma 1) o j bb) 0), .int ((nI 100) * ((rr (ma 0) (ma 1) o j bb) - (rr (ma 0) (ma 1) o j a))), .int (nI ((allS (sv (ma 0) (ma 1) o j) (sqL (ma 0) (ma 1) o j).length a ++ rowS (sv (ma 0) (ma 1) o j) a bb).length)), .ref (b 5)])) (hsA a hal)) ?_
              refine lv_iconst (v := nI 0) hx hb dX4_reckon_165 (by decide +kernel) ?_
              refine x_rd (va_runV (As := [.int (nI (sq (ma 0) (ma 1) o j a)), .int (nI 0)]) (rest := [.int (gL (ma 0) (sq (ma 0) (ma 1) o j bb) 0), .int ((nI 100) * ((rr (ma 0) (ma 1) o j bb) - (rr (ma 0) (ma 1) o j a))), .int (nI ((allS (sv (ma 0) (ma 1) o j) (sqL (ma 0) (ma 1) o j).length a ++ rowS (sv (ma 0) (ma 1) o j) a bb).length)), .ref (b 5)]) hC (c_X4_get hP (by omega) (by omega)) (cwV 2 hts gX4_reckon_X4_get rfl rfl rfl qdX4_get ⟨Nat.le_of_ble_eq_true rfl, Nat.le_of_ble_eq_true rfl⟩) (x_preV hK (x_recv hK (hP 0 _ rfl) rfl)) rfl rfl hl.1 rfl (lv_room (Nat.le_of_ble_eq_true rfl)) dX4_reckon_166 ⟨Nat.le_of_ble_eq_true rfl, Nat.le_of_ble_eq_true rfl⟩) ?_
              refine W.eq (g2 := F0 m 169 ls [.int (gL (ma 0) (sq (ma 0) (ma 1) o j a) 0), .int (gL (ma 0) (sq (ma 0) (ma 1) o j bb) 0), .int ((nI 100) * ((rr (ma 0) (ma 1) o j bb) - (rr (ma 0) (ma 1) o j a))), .int (nI ((allS (sv (ma 0) (ma 1) o j) (sqL (ma 0) (ma 1) o j).length a ++ rowS (sv (ma 0) (ma 1) o j) a bb).length)), .ref (b 5)]) rfl ?_
              refine lv_isub hx hb dX4_reckon_169 ?_
              refine lv_idiv hx hb dX4_reckon_170 (sub_ne (sq_asc (P := fun s => gL (ma 0) s 0) ho (by omega) hbl)) ?_
              refine x_iast hx hb hK hP hD hS 5 rfl (by have q1 := allS_len (sv (ma 0) (ma 1) o j) (show (sqL (ma 0) (ma 1) o j).length ≤ 12 by omega) a; have q2 := rowS_len (sv (ma 0) (ma 1) o j) a bb; rw [List.length_append]; omega) (by decide) dX4_reckon_171 (fun H locs hP hD hS => ?_)
              have hP : mP G b (va_up (va_up (va_up mi 3 (nI (sqL (ma 0) (ma 1) o j).length)) 4 un) 5 un) (va_up (va_up (va_up ma 2 sA) 3 rA) 4 (upd v ((allS (sv (ma 0) (ma 1) o j) (sqL (ma 0) (ma 1) o j).length a ++ rowS (sv (ma 0) (ma 1) o j) a bb).length) (((nI 100) * ((rr (ma 0) (ma 1) o j bb) - (rr (ma 0) (ma 1) o j a))) / ((gL (ma 0) (sq (ma 0) (ma 1) o j bb) 0) - (gL (ma 0) (sq (ma 0) (ma 1) o j a) 0))))) H := hP
              have hD : va_D A (mW G b (va_up (va_up (va_up mi 3 (nI (sqL (ma 0) (ma 1) o j).length)) 4 un) 5 un) (va_up (va_up (va_up ma 2 sA) 3 rA) 4 (upd v ((allS (sv (ma 0) (ma 1) o j) (sqL (ma 0) (ma 1) o j).length a ++ rowS (sv (ma 0) (ma 1) o j) a bb).length) (((nI 100) * ((rr (ma 0) (ma 1) o j bb) - (rr (ma 0) (ma 1) o j a))) / ((gL (ma 0) (sq (ma 0) (ma 1) o j bb) 0) - (gL (ma 0) (sq (ma 0) (ma 1) o j a) 0)))))) := hD
              refine lv_iinc (v := nI (((allS (sv (ma 0) (ma 1) o j) (sqL (ma 0) (ma 1) o j).length a ++ rowS (sv (ma 0) (ma 1) o j) a bb).length) + 1)) (lv' := [(2, .int (nI (((allS (sv (ma 0) (ma 1) o j) (sqL (ma 0) (ma 1) o j).length a ++ rowS (sv (ma 0) (ma 1) o j) a bb).length) + 1))), (0, .ref (b 0)), (1, .int (nI j)), (3, .int (nI a)), (4, .int (nI bb))]) hx hb dX4_reckon_172 hl (k := 2) rfl (nI_incn _) (by decide) rfl (fun ls hl => ?_)
              refine lv_iinc (v := nI (bb + 1)) (lv' := [(4, .int (nI (bb + 1))), (2, .int (nI (((allS (sv (ma 0) (ma 1) o j) (sqL (ma 0) (ma 1) o j).length a ++ rowS (sv (ma 0) (ma 1) o j) a bb).length) + 1))), (0, .ref (b 0)), (1, .int (nI j)), (3, .int (nI a))]) hx hb dX4_reckon_175 hl (k := 4) rfl (nI_incn _) (by decide) rfl (fun ls hl => ?_)
              have hl : lv_has ls 5 [(4, .int (nI (bb + 1))), (2, .int (nI (((allS (sv (ma 0) (ma 1) o j) (sqL (ma 0) (ma 1) o j).length a ++ rowS (sv (ma 0) (ma 1) o j) a (bb + 1))).length))), (0, .ref (b 0)), (1, .int (nI j)), (3, .int (nI a))] := by
                have e9 : ((allS (sv (ma 0) (ma 1) o j) (sqL (ma 0) (ma 1) o j).length a ++ rowS (sv (ma 0) (ma 1) o j) a (bb + 1))).length = ((allS (sv (ma 0) (ma 1) o j) (sqL (ma 0) (ma 1) o j).length a ++ rowS (sv (ma 0) (ma 1) o j) a bb).length) + 1 := by rw [rowS_succ (sv (ma 0) (ma 1) o j) (show a < bb by omega), ← List.append_assoc, List.length_append]; rfl
                rw [e9]; exact hl
              refine lv_goto (tgt := 115) hx hb dX4_reckon_178 (by decide) ?_
              exact ih_3 (bb + 1) (upd v ((allS (sv (ma 0) (ma 1) o j) (sqL (ma 0) (ma 1) o j).length a ++ rowS (sv (ma 0) (ma 1) o j) a bb).length) (((nI 100) * ((rr (ma 0) (ma 1) o j bb) - (rr (ma 0) (ma 1) o j a))) / ((gL (ma 0) (sq (ma 0) (ma 1) o j bb) 0) - (gL (ma 0) (sq (ma 0) (ma 1) o j a) 0)))) _ _ ls (by omega) (by omega) (by omega) (rowS_upd (by omega) hv) (hP) (hS) (lv_sub hl [2, 3, 1, 4, 0] rfl)
        exact loop_3 _ (a + 1) v _ _ ls (Nat.lt_succ_self _) (Nat.le_refl _) (by omega) (by rw [rowS_0 (sv (ma 0) (ma 1) o j) a (a + 1) (Nat.le_refl _), List.append_nil]; exact hv) (hP) (hS) (lv_sub hl [1, 2, 3, 4, 0] rfl)
  exact loop_1 _ 0 (ma 4) _ _ ls (Nat.lt_succ_self _) (Nat.zero_le _) (rfl) (hP) (hS) (lv_sub hl [2, 3, 1, 0] rfl)
set_option maxHeartbeats 4000000 in
set_option maxRecDepth 100000 in
theorem c_X4_reckon_c {l : Launch} {G : gT} {A : Nat → Prop} {b : Nat → Nat} {mi : Nat → Int32} {ma : Nat → Nat → Int32} {H0 : Heap} {n hn j : Nat} {o : List Nat} (hD : va_D A (mW G b mi ma)) (hg : OK n hn (ma 0) (ma 1)) (hj : j < hn) (hmn : mi 1 = nI n) (ho : IsOrd (fun s => gL (ma 0) s 0) n o) (hn12 : n ≤ 12) (hh16 : hn ≤ 16) {p : Program} {e : Env} {s : State} {m : MethodId} {below : List Frame} {meth : Method} {c : Code} {Q : State → Prop} (hx : p.tables.exec = Jvm.exec) (hb : c.code = cX4_reckon) (hml : c.maxLocals = 5) (hown : s.vm.findClass RX4 = some m.cls) (hts : ∀ w ∈ wsX4_reckon, w.before [.ref (b 0), .int (nI j)].toArray s = true) (hK : KK G s) {un : Int32} {sA : Nat → Int32} {rA : Nat → Int32} {v : Nat → Int32} {H : Heap} {locs : List Loc} (ls : Array Slot) (hsA : ∀ k, k < (sqL (ma 0) (ma 1) o j).length → sA k = nI (sq (ma 0) (ma 1) o j k)) (hrA : ∀ k, k < (sqL (ma 0) (ma 1) o j).length → rA k = (rr (ma 0) (ma 1) o j k)) (hM12 : (sqL (ma 0) (ma 1) o j).length ≤ n) (hM2 : 2 ≤ (sqL (ma 0) (ma 1) o j).length) (hP : va_P (gD G) vC (mW G b (va_up (va_up (va_up mi 3 (nI (sqL (ma 0) (ma 1) o j).length)) 4 (slp (ma 0) (ma 1) o j)) 5 un) (va_up (va_up (va_up ma 2 sA) 3 rA) 4 v)) H) (hS : va_S A H0 H locs) (hl : lv_has ls 5 [(0, .ref (b 0)), (1, .int (nI j))]) (kont : ∀ (v : Nat → Int32) (H : Heap) (locs : List Loc) (ls : Array Slot), (∀ x, x < (sqL (ma 0) (ma 1) o j).length → v x = (rr (ma 0) (ma 1) o j x) - rise (slp (ma 0) (ma 1) o j) (gL (ma 0) (sq (ma 0) (ma 1) o j x) 0)) → (va_P (gD G) vC (mW G b (va_up (va_up (va_up mi 3 (nI (sqL (ma 0) (ma 1) o j).length)) 4 (slp (ma 0) (ma 1) o j)) 5 un) (va_up (va_up (va_up ma 2 sA) 3 rA) 4 v)) H) → (va_S A H0 H locs) → lv_has ls 5 [(0, .ref (b 0)), (1, .int (nI j))] → W p l e rmX4_reckon s m [.ref (b 0), .int (nI j)].toArray below meth c H locs 0 0 Q (F0 m 235 ls [])) : W p l e rmX4_reckon s m [.ref (b 0), .int (nI j)].toArray below meth c H locs 0 0 Q (F0 m 196 ls []) := by
  have hC : CallFix p m c cX4_reckon 5 s [.ref (b 0), .int (nI j)].toArray wsX4_reckon RX4 := ⟨hx, hb, hml, hown, hts⟩
  have k_f103 := hts (.fieldLink RX4 103 "SundogLineModel" "many" "I") (by decide +kernel)
  have in_X4 : ∀ w ∈ u_ws RX4 TX4 11, w ∈ wsX4_reckon := by decide +kernel
  have k_f22 := hts (.fieldLink RX4 22 "SundogLineModel" "values" "[I") (by decide +kernel)
  have k_f19 := hts (.fieldLink RX4 19 "SundogLineModel" "readings" "[I") (by decide +kernel)
  have k_f16 := hts (.fieldLink RX4 16 "SundogLineModel" "seers" "[I") (by decide +kernel)
  have hD : va_D A (mW G b (va_up (va_up (va_up mi 3 (nI (sqL (ma 0) (ma 1) o j).length)) 4 (slp (ma 0) (ma 1) o j)) 5 un) (va_up (va_up (va_up ma 2 sA) 3 rA) 4 v)) := hD.same rfl
  refine lv_iconst (v := nI 0) hx hb dX4_reckon_196 (by decide +kernel) ?_
  refine lv_istore_n (lv' := [(3, .int (nI 0)), (0, .ref (b 0)), (1, .int (nI j))]) hx hb dX4_reckon_197 rfl hl (by decide) rfl (fun ls hl => ?_)
  have loop_1 : ∀ (fu : Nat) (k : Nat) (v : Nat → Int32) (H : Heap) (locs : List Loc) (ls : Array Slot), (sqL (ma 0) (ma 1) o j).length - k < fu → (k ≤ (sqL (ma 0) (ma 1) o j).length) → (∀ x, x < k → v x = (rr (ma 0) (ma 1) o j x) - rise (slp (ma 0) (ma 1) o j) (gL (ma 0) (sq (ma 0) (ma 1) o j x) 0)) → (va_P (gD G) vC (mW G b (va_up (va_up (va_up mi 3 (nI (sqL (ma 0) (ma 1) o j).length)) 4 (slp (ma 0) (ma 1) o j)) 5 un) (va_up (va_up (va_up ma 2 sA) 3 rA) 4 v)) H) → (va_S A H0 H locs) → lv_has ls 5 [(0, .ref (b 0)), (1, .int (nI j)), (3, .int (nI k))] → W p l e rmX4_reckon s m [.ref (b 0), .int (nI j)].toArray below meth c H locs 0 0 Q (F0 m 198 ls []) := by
    intro fu
    induction fu with
    | zero => intro k v H locs ls hms hk hv hP hS hl; exact absurd hms (Nat.not_lt_zero _)
    | succ fu ih_1 =>
      intro k v H locs ls hms hk hv hP hS hl
      have hD : va_D A (mW G b (va_up (va_up (va_up mi 3 (nI (sqL (ma 0) (ma 1) o j).length)) 4 (slp (ma 0) (ma 1) o j)) 5 un) (va_up (va_up (va_up ma 2 sA) 3 rA) 4 v)) := hD.same rfl
      refine lv_iload_n hx hb dX4_reckon_198 rfl (lv_at hl 2 rfl) ?_
      refine lv_aload_n hx hb dX4_reckon_199 rfl (lv_at hl 0 rfl) ?_
      refine x_get (T := TX4) (N := 11) (v := .int (nI ((sqL (ma 0) (ma 1) o j).length))) hx hb hts in_X4 hown hK (hP 0 _ rfl) rfl 7 (by decide) k_f103 (fun _ h9 => h9) (rfl) dX4_reckon_200 ?_
      refine x_icmp_ge (tgt := 235) hx hb (by omega) (by omega) dX4_reckon_203 (by decide) (fun c_2 => ?_) (fun c_2 => ?_)
      · exact kont v _ _ ls (fun x9 hx9 => hv x9 (by omega)) (hP) (hS) (lv_sub hl [0, 1] rfl)
      · have hkl : k < (sqL (ma 0) (ma 1) o j).length := by omega
        have hqk : (sq (ma 0) (ma 1) o j k) < n := sq_lt ho hkl
        refine lv_aload_n hx hb dX4_reckon_206 rfl (lv_at hl 0 rfl) ?_
        refine x_get (T := TX4) (N := 11) (v := .ref (b 5)) hx hb hts in_X4 hown hK (hP 0 _ rfl) rfl 10 (by decide) k_f22 (fun _ h9 => h9) (rfl) dX4_reckon_207 ?_
        refine lv_iload_n hx hb dX4_reckon_210 rfl (lv_at hl 2 rfl) ?_
        refine lv_aload_n hx hb dX4_reckon_211 rfl (lv_at hl 0 rfl) ?_
        refine x_get (T := TX4) (N := 11) (v := .ref (b 4)) hx hb hts in_X4 hown hK (hP 0 _ rfl) rfl 6 (by decide) k_f19 (fun _ h9 => h9) (rfl) dX4_reckon_212 ?_
        refine lv_iload_n hx hb dX4_reckon_215 rfl (lv_at hl 2 rfl) ?_
        refine x_ialdN hx hb hK (hP 4 _ rfl) (by omega) (by decide) dX4_reckon_216 ?_
        refine W.eq (g2 := F0 m 217 ls [.int ((rr (ma 0) (ma 1) o j k)), .int (nI k), .ref (b 5)]) (congrArg (fun z => F0 m 217 ls (.int z :: [.int (nI k), .ref (b 5)])) (hrA k hkl)) ?_
        refine lv_aload_n hx hb dX4_reckon_217 rfl (lv_at hl 0 rfl) ?_
        refine lv_aload_n hx hb dX4_reckon_218 rfl (lv_at hl 0 rfl) ?_
        refine x_get (T := TX4) (N := 11) (v := .ref (b 3)) hx hb hts in_X4 hown hK (hP 0 _ rfl) rfl 5 (by decide) k_f16 (fun _ h9 => h9) (rfl) dX4_reckon_219 ?_
        refine lv_iload_n hx hb dX4_reckon_222 rfl (lv_at hl 2 rfl) ?_
        refine x_ialdN hx hb hK (hP 3 _ rfl) (by omega) (by decide) dX4_reckon_223 ?_
        refine W.eq (g2 := F0 m 224 ls [.int (nI (sq (ma 0) (ma 1) o j k)), .ref (b 0), .int ((rr (ma 0) (ma 1) o j k)), .int (nI k), .ref (b 5)]) (congrArg (fun z => F0 m 224 ls (.int z :: [.ref (b 0), .int ((rr (ma 0) (ma 1) o j k)), .int (nI k), .ref (b 5)])) (hsA k hkl)) ?_
        refine x_rd (va_runV (As := [.int (nI (sq (ma 0) (ma 1) o j k))]) (rest := [.int ((rr (ma 0) (ma 1) o j k)), .int (nI k), .ref (b 5)]) hC (c_X4_along hP (by omega)) (cwV 1 hts gX4_reckon_X4_along rfl rfl rfl qdX4_along ⟨Nat.le_of_ble_eq_true rfl, Nat.le_of_ble_eq_true rfl⟩) (x_preV hK (x_recv hK (hP 0 _ rfl) rfl)) rfl rfl hl.1 rfl (lv_room (Nat.le_of_ble_eq_true rfl)) dX4_reckon_224 ⟨Nat.le_of_ble_eq_true rfl, Nat.le_of_ble_eq_true rfl⟩) ?_
        refine W.eq (g2 := F0 m 227 ls [.int (rise (slp (ma 0) (ma 1) o j) (gL (ma 0) (sq (ma 0) (ma 1) o j k) 0)), .int ((rr (ma 0) (ma 1) o j k)), .int (nI k), .ref (b 5)]) rfl ?_
        refine lv_isub hx hb dX4_reckon_227 ?_
        refine x_iast hx hb hK hP hD hS 5 rfl (by omega) (by decide) dX4_reckon_228 (fun H locs hP hD hS => ?_)
        have hP : mP G b (va_up (va_up (va_up mi 3 (nI (sqL (ma 0) (ma 1) o j).length)) 4 (slp (ma 0) (ma 1) o j)) 5 un) (va_up (va_up (va_up ma 2 sA) 3 rA) 4 (upd v k ((rr (ma 0) (ma 1) o j k) - (rise (slp (ma 0) (ma 1) o j) (gL (ma 0) (sq (ma 0) (ma 1) o j k) 0))))) H := hP
        have hD : va_D A (mW G b (va_up (va_up (va_up mi 3 (nI (sqL (ma 0) (ma 1) o j).length)) 4 (slp (ma 0) (ma 1) o j)) 5 un) (va_up (va_up (va_up ma 2 sA) 3 rA) 4 (upd v k ((rr (ma 0) (ma 1) o j k) - (rise (slp (ma 0) (ma 1) o j) (gL (ma 0) (sq (ma 0) (ma 1) o j k) 0)))))) := hD
        refine lv_iinc (v := nI (k + 1)) (lv' := [(3, .int (nI (k + 1))), (0, .ref (b 0)), (1, .int (nI j))]) hx hb dX4_reckon_229 hl (k := 2) rfl (nI_incn _) (by decide) rfl (fun ls hl => ?_)
        refine lv_goto (tgt := 198) hx hb dX4_reckon_232 (by decide) ?_
        exact ih_1 (k + 1) (upd v k ((rr (ma 0) (ma 1) o j k) - (rise (slp (ma 0) (ma 1) o j) (gL (ma 0) (sq (ma 0) (ma 1) o j k) 0)))) _ _ ls (by omega) (by omega) (upd_all hv rfl) (hP) (hS) (lv_sub hl [1, 2, 0] rfl)
  exact loop_1 _ 0 v _ _ ls (Nat.lt_succ_self _) (Nat.zero_le _) (fun x hx => absurd hx (Nat.not_lt_zero _)) (hP) (hS) (lv_sub hl [1, 2, 0] rfl)
