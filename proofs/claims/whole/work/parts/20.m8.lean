/-- a checksum goes on over the first k of f -/
def dfold (d : Int64) (f : Nat → Int32) : Nat → Int64
  | 0 => d
  | k + 1 => dfold d f k * 31 + (f k).toInt64
/-- what station() tells of station s -/
def stV (hn : Nat) (L T : Nat → Int32) (s k : Nat) : Int32 := if k < 5 then gL L s k else nI (cnt (fun j => see L T j s) hn)
def dgS (d : Int64) (hn : Nat) (L T : Nat → Int32) : Nat → Int64
  | 0 => d
  | s + 1 => dfold (dgS d hn L T s) (stV hn L T s) 6
def dgH (d : Int64) (n : Nat) (L T : Nat → Int32) (o : List Nat) : Nat → Int64
  | 0 => d
  | h + 1 => dfold (dfold (dgH d n L T o h) (hv L T o h) 7) (fun s => rdg L T h s) n
def dig (n hn : Nat) (L T : Nat → Int32) (o : List Nat) : Int64 := dgH (dgS (dfold 521 (cv n hn L T o) 5) hn L T n) n L T o hn
def lsm (f : Nat → Int32) : Nat → Int64
  | 0 => 0
  | k + 1 => lsm f k + (f k).toInt64
/-- what error() tells -/
def erV (L T : Nat → Int32) (o : List Nat) (h : Nat) : UInt64 := if sqM L T o h < 2 then FP.dconst0 else FP.ddiv (FP.l2d (lsm (fun k => ab (lf L T o h k)) (sqM L T o h))) (FP.i2d (nI (sqM L T o h)))
/-- such a quotient is a number -/
def noNaN : Prop := ∀ (x : Int64) (k : Nat), 2 ≤ k → k ≤ 12 → vf_n64 (FP.ddiv (FP.l2d x) (FP.i2d (nI k)))
def mQx (G : gT) (b : Nat → Nat) (n hn : Nat) (L T : Nat → Int32) (k : Nat) (P : Prop) (H1 : Heap) : Prop :=
  (k = 0 → P) ∧ ∃ (mi : Nat → Int32) (ma : Nat → Nat → Int32), mP G b mi ma H1 ∧ mS n hn L T mi ma ∧ mi 0 = nI k
theorem mQx_mk {G : gT} {b : Nat → Nat} {n hn : Nat} {L T : Nat → Int32} {k k0 : Nat} {P : Prop} {H1 : Heap} {mi : Nat → Int32} {ma : Nat → Nat → Int32} (hk : k = k0) (hP : mP G b mi ma H1) (h0 : mi 0 = nI k0) (h1 : mi 1 = nI n) (h2 : mi 2 = nI hn) (h3 : ma 0 = L) (h4 : ma 1 = T) (hv : k0 = 0 → P) : mQx G b n hn L T k P H1 :=
  ⟨fun z => hv (hk ▸ z), mi, ma, hP, ⟨h1, h2, h3, h4⟩, by rw [hk]; exact h0⟩
abbrev WrL (G : gT) (l : Launch) (y : MethodName) (ws : List Cond) (rm : Room) (as : List Value) (H0 : Heap) (A : Nat → Prop) (Φ : Int64 → Heap → Prop) : Prop := Met l y ws rm (PH G as H0) (QH (oL fun r H1 => fr A H0 H1 ∧ Φ r H1)) 0 0 A
abbrev WrD (G : gT) (l : Launch) (y : MethodName) (ws : List Cond) (rm : Room) (as : List Value) (H0 : Heap) (A : Nat → Prop) (Φ : UInt64 → Heap → Prop) : Prop := Met l y ws rm (PH G as H0) (QH (oD fun r H1 => fr A H0 H1 ∧ Φ r H1)) 0 0 A
abbrev rmX4_digest : Room := { frames := 6, cells := 0, slots := 0, locals := 141 }
theorem qdX4_digest : yX4_digest.cls = RX4 ∧ yX4_digest.cls ≠ "java/lang/invoke/MethodHandle" ∧ yX4_digest.cls ≠ "java/lang/invoke/VarHandle" ∧ (parseMethodDescriptor yX4_digest.desc).map (fun d => d.parameters.length) = some 0 := by decide +kernel
set_option maxHeartbeats 4000000 in
set_option maxRecDepth 100000 in
theorem c_X4_digest {l : Launch} {G : gT} {A : Nat → Prop} {b : Nat → Nat} {mi : Nat → Int32} {ma : Nat → Nat → Int32} {H0 : Heap} {n hn : Nat} {o : List Nat} (hP : mP G b mi ma H0) (hD : va_D A (mW G b mi ma)) (hmn : mi 1 = nI n) (hmh : mi 2 = nI hn) (hg : OK n hn (ma 0) (ma 1)) (ho : IsOrd (fun s => gL (ma 0) s 0) n o) : WrL G l yX4_digest wsX4_digest rmX4_digest [.ref (b 0)] H0 A (fun r H1 => mQx G b n hn (ma 0) (ma 1) 0 (r = dig n hn (ma 0) (ma 1) o) H1) := by
  refine x_head (bytes := cX4_digest) (maxL := 5) (ret := (some .long)) (by decide) rfl (Nat.le_of_ble_eq_true rfl) ?_
  intro p e s m below meth c ls hx hb hml hown hts hr hlk hnm hK hs0 hl Q hQ
  have hl : lv_has ls 5 [(0, .ref (b 0))] := hl
  have hC : CallFix p m c cX4_digest 5 s [.ref (b 0)].toArray wsX4_digest RX4 := ⟨hx, hb, hml, hown, hts⟩
  have k_f25 := hts (.fieldLink RX4 25 "SundogLineModel" "thrown" "I") (by decide +kernel)
  have in_X4 : ∀ w ∈ u_ws RX4 TX4 11, w ∈ wsX4_digest := by decide +kernel
  have k_c144 := hts (.constantLong RX4 144 (521)) (by decide +kernel)
  have k_f34 := hts (.fieldLink RX4 34 "SundogLineModel" "stations" "I") (by decide +kernel)
  have k_f37 := hts (.fieldLink RX4 37 "SundogLineModel" "halos" "I") (by decide +kernel)
  have k_c146 := hts (.constantLong RX4 146 (31)) (by decide +kernel)
  have hS : va_S A H0 H0 [] := va_S.rf
  have hn12 := hg.n
  have hh16 := hg.hn
  refine lv_aload_n hx hb dX4_digest_0 rfl (lv_at hl 0 rfl) ?_
  refine lv_iconst (v := nI 0) hx hb dX4_digest_1 (by decide +kernel) ?_
  refine va_put (D := gD G) (ci := 4) (v := .int (nI 0)) (ty := .int) (C := RX4) (T := TX4) (N := 11) hx hb hts in_X4 tyX4 tyX4_ok nmX4 hown hK hP hD hS 0 rfl rfl 0 (by decide) k_f25 (fun _ h9 => h9) rfl (by decide +kernel) rfl rfl (Nat.le_of_ble_eq_true rfl) dX4_digest_2 (fun H locs hP hD hS => ?_)
  have hP : mP G b (va_up mi 0 (nI 0)) ma H := hP
  have hD : va_D A (mW G b (va_up mi 0 (nI 0)) ma) := hD
  refine lv_ldc2 (v := 521) hx hb hown k_c144 dX4_digest_5 ?_
  refine lv_lstore_n (lv' := [(1, .long 521), (0, .ref (b 0))]) hx hb dX4_digest_8 rfl hl (by decide) rfl (fun ls hl => ?_)
  refine lv_iconst (v := nI 0) hx hb dX4_digest_9 (by decide +kernel) ?_
  refine lv_istore_n (lv' := [(3, .int (nI 0)), (1, .long 521), (0, .ref (b 0))]) hx hb dX4_digest_10 rfl hl (by decide) rfl (fun ls hl => ?_)
  have hP : mP G b (va_up (va_up (va_up (va_up mi 0 (nI 0)) 3 (mi 3)) 4 (mi 4)) 5 (mi 5)) (va_up (va_up (va_up ma 2 (ma 2)) 3 (ma 3)) 4 (ma 4)) H := hP
  have hD : va_D A (mW G b (va_up (va_up (va_up (va_up mi 0 (nI 0)) 3 (mi 3)) 4 (mi 4)) 5 (mi 5)) (va_up (va_up (va_up ma 2 (ma 2)) 3 (ma 3)) 4 (ma 4))) := hD.same rfl
  have loop_1 : ∀ (fu : Nat) (kk : Nat) (x9 : Int32) (y9 : Int32) (z9 : Int32) (s9 : Nat → Int32) (r9 : Nat → Int32) (v9 : Nat → Int32) (H : Heap) (locs : List Loc) (ls : Array Slot), 5 - kk < fu → (kk ≤ 5) → (va_P (gD G) vC (mW G b (va_up (va_up (va_up (va_up mi 0 (nI 0)) 3 x9) 4 y9) 5 z9) (va_up (va_up (va_up ma 2 s9) 3 r9) 4 v9)) H) → (va_S A H0 H locs) → lv_has ls 5 [(0, .ref (b 0)), (1, .long (dfold 521 (cv n hn (ma 0) (ma 1) o) kk)), (3, .int (nI kk))] → W p l e rmX4_digest s m [.ref (b 0)].toArray below meth c H locs 0 0 Q (F0 m 11 ls []) := by
    intro fu
    induction fu with
    | zero => intro kk x9 y9 z9 s9 r9 v9 H locs ls hms hkk hP hS hl; exact absurd hms (Nat.not_lt_zero _)
    | succ fu ih_1 =>
      intro kk x9 y9 z9 s9 r9 v9 H locs ls hms hkk hP hS hl
      have hD : va_D A (mW G b (va_up (va_up (va_up (va_up mi 0 (nI 0)) 3 x9) 4 y9) 5 z9) (va_up (va_up (va_up ma 2 s9) 3 r9) 4 v9)) := hD.same rfl
      refine lv_iload_n hx hb dX4_digest_11 rfl (lv_at hl 2 rfl) ?_
      refine lv_iconst (v := nI 5) hx hb dX4_digest_12 (by decide +kernel) ?_
      refine x_icmp_ge (tgt := 35) hx hb (by omega) (by omega) dX4_digest_13 (by decide) (fun c_2 => ?_) (fun c_2 => ?_)
      · have hl : lv_has ls 5 [(0, .ref (b 0)), (1, .long (dfold 521 (cv n hn (ma 0) (ma 1) o) 5)), (3, .int (nI kk))] := by
          have e9 : (dfold 521 (cv n hn (ma 0) (ma 1) o) 5) = (dfold 521 (cv n hn (ma 0) (ma 1) o) kk) := by rw [show kk = 5 by omega]
          rw [e9]; exact hl
        refine lv_iconst (v := nI 0) hx hb dX4_digest_35 (by decide +kernel) ?_
        refine lv_istore_n (lv' := [(3, .int (nI 0)), (0, .ref (b 0)), (1, .long (dfold 521 (cv n hn (ma 0) (ma 1) o) 5))]) hx hb dX4_digest_36 rfl hl (by decide) rfl (fun ls hl => ?_)
        have loop_3 : ∀ (fu : Nat) (ss : Nat)  (ls : Array Slot), n - ss < fu → (ss ≤ n) → lv_has ls 5 [(0, .ref (b 0)), (1, .long (dgS (dfold 521 (cv n hn (ma 0) (ma 1) o) 5) hn (ma 0) (ma 1) ss)), (3, .int (nI ss))] → W p l e rmX4_digest s m [.ref (b 0)].toArray below meth c H locs 0 0 Q (F0 m 37 ls []) := by
          intro fu
          induction fu with
          | zero => intro ss ls hms hss hl; exact absurd hms (Nat.not_lt_zero _)
          | succ fu ih_3 =>
            intro ss ls hms hss hl
            refine lv_iload_n hx hb dX4_digest_37 rfl (lv_at hl 2 rfl) ?_
            refine lv_aload_n hx hb dX4_digest_38 rfl (lv_at hl 0 rfl) ?_
            refine x_get (T := TX4) (N := 11) (v := .int (nI n)) hx hb hts in_X4 hown hK (hP 0 _ rfl) rfl 1 (by decide) k_f34 (fun _ h9 => h9) (congrArg (fun z => some (Value.int z)) hmn) dX4_digest_39 ?_
            refine x_icmp_ge (tgt := 82) hx hb (by omega) (by omega) dX4_digest_42 (by decide) (fun c_4 => ?_) (fun c_4 => ?_)
            · have hl : lv_has ls 5 [(0, .ref (b 0)), (1, .long (dgS (dfold 521 (cv n hn (ma 0) (ma 1) o) 5) hn (ma 0) (ma 1) n)), (3, .int (nI ss))] := by
                have e9 : (dgS (dfold 521 (cv n hn (ma 0) (ma 1) o) 5) hn (ma 0) (ma 1) n) = (dgS (dfold 521 (cv n hn (ma 0) (ma 1) o) 5) hn (ma 0) (ma 1) ss) := by rw [show ss = n by omega]
                rw [e9]; exact hl
              refine lv_iconst (v := nI 0) hx hb dX4_digest_82 (by decide +kernel) ?_
              refine lv_istore_n (lv' := [(3, .int (nI 0)), (0, .ref (b 0)), (1, .long (dgS (dfold 521 (cv n hn (ma 0) (ma 1) o) 5) hn (ma 0) (ma 1) n))]) hx hb dX4_digest_83 rfl hl (by decide) rfl (fun ls hl => ?_)
              have hP : mP G b (va_up (va_up (va_up (va_up mi 0 (nI 0)) 3 x9) 4 y9) 5 z9) (va_up (va_up (va_up ma 2 s9) 3 r9) 4 v9) H := hP
              have hD : va_D A (mW G b (va_up (va_up (va_up (va_up mi 0 (nI 0)) 3 x9) 4 y9) 5 z9) (va_up (va_up (va_up ma 2 s9) 3 r9) 4 v9)) := hD.same rfl
              have loop_5 : ∀ (fu : Nat) (j : Nat) (x9 : Int32) (y9 : Int32) (z9 : Int32) (s9 : Nat → Int32) (r9 : Nat → Int32) (v9 : Nat → Int32) (H : Heap) (locs : List Loc) (ls : Array Slot), hn - j < fu → (j ≤ hn) → (va_P (gD G) vC (mW G b (va_up (va_up (va_up (va_up mi 0 (nI 0)) 3 x9) 4 y9) 5 z9) (va_up (va_up (va_up ma 2 s9) 3 r9) 4 v9)) H) → (va_S A H0 H locs) → lv_has ls 5 [(0, .ref (b 0)), (1, .long (dgH (dgS (dfold 521 (cv n hn (ma 0) (ma 1) o) 5) hn (ma 0) (ma 1) n) n (ma 0) (ma 1) o j)), (3, .int (nI j))] → W p l e rmX4_digest s m [.ref (b 0)].toArray below meth c H locs 0 0 Q (F0 m 84 ls []) := by
                intro fu
                induction fu with
                | zero => intro j x9 y9 z9 s9 r9 v9 H locs ls hms hjn hP hS hl; exact absurd hms (Nat.not_lt_zero _)
                | succ fu ih_5 =>
                  intro j x9 y9 z9 s9 r9 v9 H locs ls hms hjn hP hS hl
                  have hD : va_D A (mW G b (va_up (va_up (va_up (va_up mi 0 (nI 0)) 3 x9) 4 y9) 5 z9) (va_up (va_up (va_up ma 2 s9) 3 r9) 4 v9)) := hD.same rfl
                  refine lv_iload_n hx hb dX4_digest_84 rfl (lv_at hl 2 rfl) ?_
                  refine lv_aload_n hx hb dX4_digest_85 rfl (lv_at hl 0 rfl) ?_
                  refine x_get (T := TX4) (N := 11) (v := .int (nI hn)) hx hb hts in_X4 hown hK (hP 0 _ rfl) rfl 3 (by decide) k_f37 (fun _ h9 => h9) (congrArg (fun z => some (Value.int z)) hmh) dX4_digest_86 ?_
                  refine x_icmp_ge (tgt := 162) hx hb (by omega) (by omega) dX4_digest_89 (by decide) (fun c_6 => ?_) (fun c_6 => ?_)
                  · refine lv_lload_n hx hb dX4_digest_162 rfl (lv_at hl 1 rfl) ?_
                    exact x_lret hQ hx hb hr hlk hS.2.2 dX4_digest_163 ⟨hS.fr, mQx_mk (k0 := 0) rfl hP rfl hmn hmh rfl rfl (fun _ => by rw [show j = hn by omega]; rfl)⟩
                  · refine lv_iconst (v := nI 0) hx hb dX4_digest_92 (by decide +kernel) ?_
                    refine lv_istore (lv' := [(4, .int (nI 0)), (0, .ref (b 0)), (1, .long (dgH (dgS (dfold 521 (cv n hn (ma 0) (ma 1) o) 5) hn (ma 0) (ma 1) n) n (ma 0) (ma 1) o j)), (3, .int (nI j))]) hx hb dX4_digest_93 hl (by decide) rfl (fun ls hl => ?_)
                    have hP : mP G b (va_up (va_up (va_up (va_up mi 0 (nI 0)) 3 x9) 4 y9) 5 z9) (va_up (va_up (va_up ma 2 s9) 3 r9) 4 v9) H := hP
                    have hD : va_D A (mW G b (va_up (va_up (va_up (va_up mi 0 (nI 0)) 3 x9) 4 y9) 5 z9) (va_up (va_up (va_up ma 2 s9) 3 r9) 4 v9)) := hD.same rfl
                    have loop_7 : ∀ (fu : Nat) (kk : Nat) (x9 : Int32) (y9 : Int32) (z9 : Int32) (s9 : Nat → Int32) (r9 : Nat → Int32) (v9 : Nat → Int32) (H : Heap) (locs : List Loc) (ls : Array Slot), 7 - kk < fu → (kk ≤ 7) → (va_P (gD G) vC (mW G b (va_up (va_up (va_up (va_up mi 0 (nI 0)) 3 x9) 4 y9) 5 z9) (va_up (va_up (va_up ma 2 s9) 3 r9) 4 v9)) H) → (va_S A H0 H locs) → lv_has ls 5 [(0, .ref (b 0)), (1, .long (dfold (dgH (dgS (dfold 521 (cv n hn (ma 0) (ma 1) o) 5) hn (ma 0) (ma 1) n) n (ma 0) (ma 1) o j) (hv (ma 0) (ma 1) o j) kk)), (3, .int (nI j)), (4, .int (nI kk))] → W p l e rmX4_digest s m [.ref (b 0)].toArray below meth c H locs 0 0 Q (F0 m 95 ls []) := by
                      intro fu
                      induction fu with
                      | zero => intro kk x9 y9 z9 s9 r9 v9 H locs ls hms hkk hP hS hl; exact absurd hms (Nat.not_lt_zero _)
                      | succ fu ih_7 =>
                        intro kk x9 y9 z9 s9 r9 v9 H locs ls hms hkk hP hS hl
                        have hD : va_D A (mW G b (va_up (va_up (va_up (va_up mi 0 (nI 0)) 3 x9) 4 y9) 5 z9) (va_up (va_up (va_up ma 2 s9) 3 r9) 4 v9)) := hD.same rfl
                        refine lv_iload hx hb dX4_digest_95 (lv_at hl 3 rfl) ?_
                        refine lv_bipush (v := nI 7) hx hb dX4_digest_97 (by decide +kernel) ?_
                        refine x_icmp_ge (tgt := 123) hx hb (by omega) (by omega) dX4_digest_99 (by decide) (fun c_8 => ?_) (fun c_8 => ?_)
                        · have hl : lv_has ls 5 [(0, .ref (b 0)), (1, .long (dfold (dgH (dgS (dfold 521 (cv n hn (ma 0) (ma 1) o) 5) hn (ma 0) (ma 1) n) n (ma 0) (ma 1) o j) (hv (ma 0) (ma 1) o j) 7)), (3, .int (nI j)), (4, .int (nI kk))] := by
                            have e9 : (dfold (dgH (dgS (dfold 521 (cv n hn (ma 0) (ma 1) o) 5) hn (ma 0) (ma 1) n) n (ma 0) (ma 1) o j) (hv (ma 0) (ma 1) o j) 7) = (dfold (dgH (dgS (dfold 521 (cv n hn (ma 0) (ma 1) o) 5) hn (ma 0) (ma 1) n) n (ma 0) (ma 1) o j) (hv (ma 0) (ma 1) o j) kk) := by rw [show kk = 7 by omega]
                            rw [e9]; exact hl
                          refine lv_iconst (v := nI 0) hx hb dX4_digest_123 (by decide +kernel) ?_
                          refine lv_istore (lv' := [(4, .int (nI 0)), (0, .ref (b 0)), (1, .long (dfold (dgH (dgS (dfold 521 (cv n hn (ma 0) (ma 1) o) 5) hn (ma 0) (ma 1) n) n (ma 0) (ma 1) o j) (hv (ma 0) (ma 1) o j) 7)), (3, .int (nI j))]) hx hb dX4_digest_124 hl (by decide) rfl (fun ls hl => ?_)
                          have loop_9 : ∀ (fu : Nat) (ss : Nat)  (ls : Array Slot), n - ss < fu → (ss ≤ n) → lv_has ls 5 [(0, .ref (b 0)), (1, .long (dfold (dfold (dgH (dgS (dfold 521 (cv n hn (ma 0) (ma 1) o) 5) hn (ma 0) (ma 1) n) n (ma 0) (ma 1) o j) (hv (ma 0) (ma 1) o j) 7) (fun s => rdg (ma 0) (ma 1) j s) ss)), (3, .int (nI j)), (4, .int (nI ss))] → W p l e rmX4_digest s m [.ref (b 0)].toArray below meth c H locs 0 0 Q (F0 m 126 ls []) := by
                            intro fu
                            induction fu with
                            | zero => intro ss ls hms hss hl; exact absurd hms (Nat.not_lt_zero _)
                            | succ fu ih_9 =>
                              intro ss ls hms hss hl
                              refine lv_iload hx hb dX4_digest_126 (lv_at hl 3 rfl) ?_
                              refine lv_aload_n hx hb dX4_digest_128 rfl (lv_at hl 0 rfl) ?_
                              refine x_get (T := TX4) (N := 11) (v := .int (nI n)) hx hb hts in_X4 hown hK (hP 0 _ rfl) rfl 1 (by decide) k_f34 (fun _ h9 => h9) (congrArg (fun z => some (Value.int z)) hmn) dX4_digest_129 ?_
                              refine x_icmp_ge (tgt := 156) hx hb (by omega) (by omega) dX4_digest_132 (by decide) (fun c_10 => ?_) (fun c_10 => ?_)
                              · have hl : lv_has ls 5 [(0, .ref (b 0)), (1, .long (dgH (dgS (dfold 521 (cv n hn (ma 0) (ma 1) o) 5) hn (ma 0) (ma 1) n) n (ma 0) (ma 1) o (j + 1))), (3, .int (nI j)), (4, .int (nI ss))] := by
                                  have e9 : (dgH (dgS (dfold 521 (cv n hn (ma 0) (ma 1) o) 5) hn (ma 0) (ma 1) n) n (ma 0) (ma 1) o (j + 1)) = (dfold (dfold (dgH (dgS (dfold 521 (cv n hn (ma 0) (ma 1) o) 5) hn (ma 0) (ma 1) n) n (ma 0) (ma 1) o j) (hv (ma 0) (ma 1) o j) 7) (fun s => rdg (ma 0) (ma 1) j s) ss) := by rw [show ss = n by omega]; rfl
                                  rw [e9]; exact hl
                                refine lv_iinc (v := nI (j + 1)) (lv' := [(3, .int (nI (j + 1))), (0, .ref (b 0)), (1, .long (dgH (dgS (dfold 521 (cv n hn (ma 0) (ma 1) o) 5) hn (ma 0) (ma 1) n) n (ma 0) (ma 1) o (j + 1))), (4, .int (nI ss))]) hx hb dX4_digest_156 hl (k := 2) rfl (nI_incn _) (by decide) rfl (fun ls hl => ?_)
                                refine lv_goto (tgt := 84) hx hb dX4_digest_159 (by decide) ?_
                                exact ih_5 (j + 1) x9 y9 z9 s9 r9 v9 _ _ ls (by omega) (by omega) (hP) (hS) (lv_sub hl [1, 2, 0] rfl)
                              · refine lv_lload_n hx hb dX4_digest_135 rfl (lv_at hl 1 rfl) ?_
                                refine lv_ldc2 (v := 31) hx hb hown k_c146 dX4_digest_136 ?_
                                refine lv_lmul hx hb dX4_digest_139 ?_
                                refine lv_aload_n hx hb dX4_digest_140 rfl (lv_at hl 0 rfl) ?_
                                refine lv_iload_n hx hb dX4_digest_141 rfl (lv_at hl 2 rfl) ?_
                                refine lv_iload hx hb dX4_digest_142 (lv_at hl 3 rfl) ?_
                                refine x_rd (va_runV (As := [.int (nI j), .int (nI ss)]) (rest := [.long ((dfold (dfold (dgH (dgS (dfold 521 (cv n hn (ma 0) (ma 1) o) 5) hn (ma 0) (ma 1) n) n (ma 0) (ma 1) o j) (hv (ma 0) (ma 1) o j) 7) (fun s => rdg (ma 0) (ma 1) j s) ss) * 31)]) hC (c_X4_readingOf hP hg (by omega) (by omega)) (cwV 2 hts gX4_digest_X4_readingOf rfl rfl rfl qdX4_readingOf ⟨Nat.le_of_ble_eq_true rfl, Nat.le_of_ble_eq_true rfl⟩) (x_preV hK (x_recv hK (hP 0 _ rfl) rfl)) rfl rfl hl.1 rfl (lv_room (Nat.le_of_ble_eq_true rfl)) dX4_digest_144 ⟨Nat.le_of_ble_eq_true rfl, Nat.le_of_ble_eq_true rfl⟩) ?_
                                refine W.eq (g2 := F0 m 147 ls [.int (rdg (ma 0) (ma 1) j ss), .long ((dfold (dfold (dgH (dgS (dfold 521 (cv n hn (ma 0) (ma 1) o) 5) hn (ma 0) (ma 1) n) n (ma 0) (ma 1) o j) (hv (ma 0) (ma 1) o j) 7) (fun s => rdg (ma 0) (ma 1) j s) ss) * 31)]) rfl ?_
                                refine lv_i2l (v := (rdg (ma 0) (ma 1) j ss).toInt64) hx hb dX4_digest_147 rfl ?_
                                refine lv_ladd hx hb dX4_digest_148 ?_
                                refine lv_lstore_n (lv' := [(1, .long (((dfold (dfold (dgH (dgS (dfold 521 (cv n hn (ma 0) (ma 1) o) 5) hn (ma 0) (ma 1) n) n (ma 0) (ma 1) o j) (hv (ma 0) (ma 1) o j) 7) (fun s => rdg (ma 0) (ma 1) j s) ss) * 31) + ((rdg (ma 0) (ma 1) j ss).toInt64))), (0, .ref (b 0)), (3, .int (nI j)), (4, .int (nI ss))]) hx hb dX4_digest_149 rfl hl (by decide) rfl (fun ls hl => ?_)
                                refine lv_iinc (v := nI (ss + 1)) (lv' := [(4, .int (nI (ss + 1))), (1, .long (((dfold (dfold (dgH (dgS (dfold 521 (cv n hn (ma 0) (ma 1) o) 5) hn (ma 0) (ma 1) n) n (ma 0) (ma 1) o j) (hv (ma 0) (ma 1) o j) 7) (fun s => rdg (ma 0) (ma 1) j s) ss) * 31) + ((rdg (ma 0) (ma 1) j ss).toInt64))), (0, .ref (b 0)), (3, .int (nI j))]) hx hb dX4_digest_150 hl (k := 3) rfl (nI_incn _) (by decide) rfl (fun ls hl => ?_)
                                refine lv_goto (tgt := 126) hx hb dX4_digest_153 (by decide) ?_
                                exact ih_9 (ss + 1) ls (by omega) (by omega) (lv_sub hl [2, 1, 3, 0] rfl)
                          exact loop_9 _ 0 ls (Nat.lt_succ_self _) (Nat.zero_le _) (lv_sub hl [1, 2, 3, 0] rfl)
                        · refine lv_lload_n hx hb dX4_digest_102 rfl (lv_at hl 1 rfl) ?_
                          refine lv_ldc2 (v := 31) hx hb hown k_c146 dX4_digest_103 ?_
                          refine lv_lmul hx hb dX4_digest_106 ?_
                          refine lv_aload_n hx hb dX4_digest_107 rfl (lv_at hl 0 rfl) ?_
                          refine lv_iload_n hx hb dX4_digest_108 rfl (lv_at hl 2 rfl) ?_
                          refine lv_iload hx hb dX4_digest_109 (lv_at hl 3 rfl) ?_
                          refine x_runi (va_runV (As := [.int (nI j), .int (nI kk)]) (rest := [.long ((dfold (dgH (dgS (dfold 521 (cv n hn (ma 0) (ma 1) o) 5) hn (ma 0) (ma 1) n) n (ma 0) (ma 1) o j) (hv (ma 0) (ma 1) o j) kk) * 31)]) hC (c_X4_haloTold hP hD hg (by omega) hmn ho (by omega)) (cwV 2 hts gX4_digest_X4_haloTold rfl rfl rfl qdX4_haloTold ⟨Nat.le_of_ble_eq_true rfl, Nat.le_of_ble_eq_true rfl⟩) (x_preV hK (x_recv hK (hP 0 _ rfl) rfl)) rfl rfl hl.1 rfl (lv_room (Nat.le_of_ble_eq_true rfl)) dX4_digest_111 ⟨Nat.le_of_ble_eq_true rfl, Nat.le_of_ble_eq_true rfl⟩) hS (fun _ h => h) (fun r11 H locs hfr hΦ hS => ?_)
                          obtain ⟨er11, sA11, rA11, vA11, hsA11, hrA11, hP⟩ := hΦ
                          have hP : mP G b (va_up (va_up (va_up (va_up mi 0 (nI 0)) 3 (nI (sqL (ma 0) (ma 1) o j).length)) 4 (slp (ma 0) (ma 1) o j)) 5 (bas (ma 0) (ma 1) o j)) (va_up (va_up (va_up ma 2 sA11) 3 rA11) 4 vA11) H := hP
                          have hD : va_D A (mW G b (va_up (va_up (va_up (va_up mi 0 (nI 0)) 3 (nI (sqL (ma 0) (ma 1) o j).length)) 4 (slp (ma 0) (ma 1) o j)) 5 (bas (ma 0) (ma 1) o j)) (va_up (va_up (va_up ma 2 sA11) 3 rA11) 4 vA11)) := hD.same rfl
                          rw [er11]
                          refine lv_i2l (v := (hv (ma 0) (ma 1) o j kk).toInt64) hx hb dX4_digest_114 rfl ?_
                          refine lv_ladd hx hb dX4_digest_115 ?_
                          refine lv_lstore_n (lv' := [(1, .long (((dfold (dgH (dgS (dfold 521 (cv n hn (ma 0) (ma 1) o) 5) hn (ma 0) (ma 1) n) n (ma 0) (ma 1) o j) (hv (ma 0) (ma 1) o j) kk) * 31) + ((hv (ma 0) (ma 1) o j kk).toInt64))), (0, .ref (b 0)), (3, .int (nI j)), (4, .int (nI kk))]) hx hb dX4_digest_116 rfl hl (by decide) rfl (fun ls hl => ?_)
                          refine lv_iinc (v := nI (kk + 1)) (lv' := [(4, .int (nI (kk + 1))), (1, .long (((dfold (dgH (dgS (dfold 521 (cv n hn (ma 0) (ma 1) o) 5) hn (ma 0) (ma 1) n) n (ma 0) (ma 1) o j) (hv (ma 0) (ma 1) o j) kk) * 31) + ((hv (ma 0) (ma 1) o j kk).toInt64))), (0, .ref (b 0)), (3, .int (nI j))]) hx hb dX4_digest_117 hl (k := 3) rfl (nI_incn _) (by decide) rfl (fun ls hl => ?_)
                          refine lv_goto (tgt := 95) hx hb dX4_digest_120 (by decide) ?_
                          exact ih_7 (kk + 1) (nI (sqL (ma 0) (ma 1) o j).length) (slp (ma 0) (ma 1) o j) (bas (ma 0) (ma 1) o j) sA11 rA11 vA11 _ _ ls (by omega) (by omega) (hP) (hS) (lv_sub hl [2, 1, 3, 0] rfl)
                    exact loop_7 _ 0 x9 y9 z9 s9 r9 v9 _ _ ls (Nat.lt_succ_self _) (Nat.zero_le _) (hP) (hS) (lv_sub hl [1, 2, 3, 0] rfl)
              exact loop_5 _ 0 x9 y9 z9 s9 r9 v9 _ _ ls (Nat.lt_succ_self _) (Nat.zero_le _) (hP) (hS) (lv_sub hl [1, 2, 0] rfl)
            · refine lv_iconst (v := nI 0) hx hb dX4_digest_45 (by decide +kernel) ?_
              refine lv_istore (lv' := [(4, .int (nI 0)), (0, .ref (b 0)), (1, .long (dgS (dfold 521 (cv n hn (ma 0) (ma 1) o) 5) hn (ma 0) (ma 1) ss)), (3, .int (nI ss))]) hx hb dX4_digest_46 hl (by decide) rfl (fun ls hl => ?_)
              have loop_12 : ∀ (fu : Nat) (kk : Nat)  (ls : Array Slot), 6 - kk < fu → (kk ≤ 6) → lv_has ls 5 [(0, .ref (b 0)), (1, .long (dfold (dgS (dfold 521 (cv n hn (ma 0) (ma 1) o) 5) hn (ma 0) (ma 1) ss) (stV hn (ma 0) (ma 1) ss) kk)), (3, .int (nI ss)), (4, .int (nI kk))] → W p l e rmX4_digest s m [.ref (b 0)].toArray below meth c H locs 0 0 Q (F0 m 48 ls []) := by
                intro fu
                induction fu with
                | zero => intro kk ls hms hkk hl; exact absurd hms (Nat.not_lt_zero _)
                | succ fu ih_12 =>
                  intro kk ls hms hkk hl
                  refine lv_iload hx hb dX4_digest_48 (lv_at hl 3 rfl) ?_
                  refine lv_bipush (v := nI 6) hx hb dX4_digest_50 (by decide +kernel) ?_
                  refine x_icmp_ge (tgt := 76) hx hb (by omega) (by omega) dX4_digest_52 (by decide) (fun c_13 => ?_) (fun c_13 => ?_)
                  · have hl : lv_has ls 5 [(0, .ref (b 0)), (1, .long (dgS (dfold 521 (cv n hn (ma 0) (ma 1) o) 5) hn (ma 0) (ma 1) (ss + 1))), (3, .int (nI ss)), (4, .int (nI kk))] := by
                      have e9 : (dgS (dfold 521 (cv n hn (ma 0) (ma 1) o) 5) hn (ma 0) (ma 1) (ss + 1)) = (dfold (dgS (dfold 521 (cv n hn (ma 0) (ma 1) o) 5) hn (ma 0) (ma 1) ss) (stV hn (ma 0) (ma 1) ss) kk) := by rw [show kk = 6 by omega]; rfl
                      rw [e9]; exact hl
                    refine lv_iinc (v := nI (ss + 1)) (lv' := [(3, .int (nI (ss + 1))), (0, .ref (b 0)), (1, .long (dgS (dfold 521 (cv n hn (ma 0) (ma 1) o) 5) hn (ma 0) (ma 1) (ss + 1))), (4, .int (nI kk))]) hx hb dX4_digest_76 hl (k := 2) rfl (nI_incn _) (by decide) rfl (fun ls hl => ?_)
                    refine lv_goto (tgt := 37) hx hb dX4_digest_79 (by decide) ?_
                    exact ih_3 (ss + 1) ls (by omega) (by omega) (lv_sub hl [1, 2, 0] rfl)
                  · refine lv_lload_n hx hb dX4_digest_55 rfl (lv_at hl 1 rfl) ?_
                    refine lv_ldc2 (v := 31) hx hb hown k_c146 dX4_digest_56 ?_
                    refine lv_lmul hx hb dX4_digest_59 ?_
                    refine lv_aload_n hx hb dX4_digest_60 rfl (lv_at hl 0 rfl) ?_
                    refine lv_iload_n hx hb dX4_digest_61 rfl (lv_at hl 2 rfl) ?_
                    refine lv_iload hx hb dX4_digest_62 (lv_at hl 3 rfl) ?_
                    refine x_rd (va_runV (As := [.int (nI ss), .int (nI kk)]) (rest := [.long ((dfold (dgS (dfold 521 (cv n hn (ma 0) (ma 1) o) 5) hn (ma 0) (ma 1) ss) (stV hn (ma 0) (ma 1) ss) kk) * 31)]) hC (c_X4_stationTold hP hg (by omega) hmh (by omega)) (cwV 2 hts gX4_digest_X4_stationTold rfl rfl rfl qdX4_stationTold ⟨Nat.le_of_ble_eq_true rfl, Nat.le_of_ble_eq_true rfl⟩) (x_preV hK (x_recv hK (hP 0 _ rfl) rfl)) rfl rfl hl.1 rfl (lv_room (Nat.le_of_ble_eq_true rfl)) dX4_digest_64 ⟨Nat.le_of_ble_eq_true rfl, Nat.le_of_ble_eq_true rfl⟩) ?_
                    refine W.eq (g2 := F0 m 67 ls [.int ((if kk < 5 then gL (ma 0) ss kk else nI (cnt (fun j => see (ma 0) (ma 1) j ss) hn))), .long ((dfold (dgS (dfold 521 (cv n hn (ma 0) (ma 1) o) 5) hn (ma 0) (ma 1) ss) (stV hn (ma 0) (ma 1) ss) kk) * 31)]) rfl ?_
                    refine W.eq (g2 := F0 m 67 ls [.int (stV hn (ma 0) (ma 1) ss kk), .long ((dfold (dgS (dfold 521 (cv n hn (ma 0) (ma 1) o) 5) hn (ma 0) (ma 1) ss) (stV hn (ma 0) (ma 1) ss) kk) * 31)]) rfl ?_
                    refine lv_i2l (v := (stV hn (ma 0) (ma 1) ss kk).toInt64) hx hb dX4_digest_67 rfl ?_
                    refine lv_ladd hx hb dX4_digest_68 ?_
                    refine lv_lstore_n (lv' := [(1, .long (((dfold (dgS (dfold 521 (cv n hn (ma 0) (ma 1) o) 5) hn (ma 0) (ma 1) ss) (stV hn (ma 0) (ma 1) ss) kk) * 31) + ((stV hn (ma 0) (ma 1) ss kk).toInt64))), (0, .ref (b 0)), (3, .int (nI ss)), (4, .int (nI kk))]) hx hb dX4_digest_69 rfl hl (by decide) rfl (fun ls hl => ?_)
                    refine lv_iinc (v := nI (kk + 1)) (lv' := [(4, .int (nI (kk + 1))), (1, .long (((dfold (dgS (dfold 521 (cv n hn (ma 0) (ma 1) o) 5) hn (ma 0) (ma 1) ss) (stV hn (ma 0) (ma 1) ss) kk) * 31) + ((stV hn (ma 0) (ma 1) ss kk).toInt64))), (0, .ref (b 0)), (3, .int (nI ss))]) hx hb dX4_digest_70 hl (k := 3) rfl (nI_incn _) (by decide) rfl (fun ls hl => ?_)
                    refine lv_goto (tgt := 48) hx hb dX4_digest_73 (by decide) ?_
                    exact ih_12 (kk + 1) ls (by omega) (by omega) (lv_sub hl [2, 1, 3, 0] rfl)
              exact loop_12 _ 0 ls (Nat.lt_succ_self _) (Nat.zero_le _) (lv_sub hl [1, 2, 3, 0] rfl)
        exact loop_3 _ 0 ls (Nat.lt_succ_self _) (Nat.zero_le _) (lv_sub hl [1, 2, 0] rfl)
      · refine lv_lload_n hx hb dX4_digest_16 rfl (lv_at hl 1 rfl) ?_
        refine lv_ldc2 (v := 31) hx hb hown k_c146 dX4_digest_17 ?_
        refine lv_lmul hx hb dX4_digest_20 ?_
        refine lv_aload_n hx hb dX4_digest_21 rfl (lv_at hl 0 rfl) ?_
        refine lv_iload_n hx hb dX4_digest_22 rfl (lv_at hl 2 rfl) ?_
        refine x_runi (va_runV (As := [.int (nI kk)]) (rest := [.long ((dfold 521 (cv n hn (ma 0) (ma 1) o) kk) * 31)]) hC (c_X4_counted hP hD hmn hmh hg ho (by omega)) (cwV 1 hts gX4_digest_X4_counted rfl rfl rfl qdX4_counted ⟨Nat.le_of_ble_eq_true rfl, Nat.le_of_ble_eq_true rfl⟩) (x_preV hK (x_recv hK (hP 0 _ rfl) rfl)) rfl rfl hl.1 rfl (lv_room (Nat.le_of_ble_eq_true rfl)) dX4_digest_23 ⟨Nat.le_of_ble_eq_true rfl, Nat.le_of_ble_eq_true rfl⟩) hS (fun _ h => h) (fun r14 H locs hfr hΦ hS => ?_)
        obtain ⟨er14, x14, y14, z14, s14, rr14, v14, hP⟩ := hΦ
        have hP : mP G b (va_up (va_up (va_up (va_up mi 0 (nI 0)) 3 x14) 4 y14) 5 z14) (va_up (va_up (va_up ma 2 s14) 3 rr14) 4 v14) H := hP
        have hD : va_D A (mW G b (va_up (va_up (va_up (va_up mi 0 (nI 0)) 3 x14) 4 y14) 5 z14) (va_up (va_up (va_up ma 2 s14) 3 rr14) 4 v14)) := hD.same rfl
        rw [er14]
        refine lv_i2l (v := (cv n hn (ma 0) (ma 1) o kk).toInt64) hx hb dX4_digest_26 rfl ?_
        refine lv_ladd hx hb dX4_digest_27 ?_
        refine lv_lstore_n (lv' := [(1, .long (((dfold 521 (cv n hn (ma 0) (ma 1) o) kk) * 31) + ((cv n hn (ma 0) (ma 1) o kk).toInt64))), (0, .ref (b 0)), (3, .int (nI kk))]) hx hb dX4_digest_28 rfl hl (by decide) rfl (fun ls hl => ?_)
        refine lv_iinc (v := nI (kk + 1)) (lv' := [(3, .int (nI (kk + 1))), (1, .long (((dfold 521 (cv n hn (ma 0) (ma 1) o) kk) * 31) + ((cv n hn (ma 0) (ma 1) o kk).toInt64))), (0, .ref (b 0))]) hx hb dX4_digest_29 hl (k := 2) rfl (nI_incn _) (by decide) rfl (fun ls hl => ?_)
        refine lv_goto (tgt := 11) hx hb dX4_digest_32 (by decide) ?_
        exact ih_1 (kk + 1) x14 y14 z14 s14 rr14 v14 _ _ ls (by omega) (by omega) (hP) (hS) (lv_sub hl [2, 1, 0] rfl)
  exact loop_1 _ 0 (mi 3) (mi 4) (mi 5) (ma 2) (ma 3) (ma 4) _ _ ls (Nat.lt_succ_self _) (Nat.zero_le _) (hP) (hS) (lv_sub hl [2, 1, 0] rfl)
abbrev rmX4_error : Room := { frames := 5, cells := 0, slots := 0, locals := 116 }
theorem qdX4_error : yX4_error.cls = RX4 ∧ yX4_error.cls ≠ "java/lang/invoke/MethodHandle" ∧ yX4_error.cls ≠ "java/lang/invoke/VarHandle" ∧ (parseMethodDescriptor yX4_error.desc).map (fun d => d.parameters.length) = some 1 := by decide +kernel
set_option maxHeartbeats 4000000 in
set_option maxRecDepth 100000 in
theorem c_X4_error {l : Launch} {G : gT} {A : Nat → Prop} {b : Nat → Nat} {mi : Nat → Int32} {ma : Nat → Nat → Int32} {H0 : Heap} {n hn : Nat} {o : List Nat} {x1 : Int32} (hP : mP G b mi ma H0) (hD : va_D A (mW G b mi ma)) (hmn : mi 1 = nI n) (hmh : mi 2 = nI hn) (hg : OK n hn (ma 0) (ma 1)) (ho : IsOrd (fun s => gL (ma 0) s 0) n o) (hdn : noNaN) : WrD G l yX4_error wsX4_error rmX4_error [.ref (b 0), .int x1] H0 A (fun r H1 => mQx G b n hn (ma 0) (ma 1) (k1 (vS hn x1)) (r = erV (ma 0) (ma 1) o x1.toNatClampNeg) H1) := by
  refine x_head (bytes := cX4_error) (maxL := 5) (ret := (some .double)) (by decide) rfl (Nat.le_of_ble_eq_true rfl) ?_
  intro p e s m below meth c ls hx hb hml hown hts hr hlk hnm hK hs0 hl Q hQ
  have hl : lv_has ls 5 [(0, .ref (b 0)), (1, .int x1)] := hl
  have hC : CallFix p m c cX4_error 5 s [.ref (b 0), .int x1].toArray wsX4_error RX4 := ⟨hx, hb, hml, hown, hts⟩
  have k_f25 := hts (.fieldLink RX4 25 "SundogLineModel" "thrown" "I") (by decide +kernel)
  have in_X4 : ∀ w ∈ u_ws RX4 TX4 11, w ∈ wsX4_error := by decide +kernel
  have k_f103 := hts (.fieldLink RX4 103 "SundogLineModel" "many" "I") (by decide +kernel)
  have k_m83 := hts (.methodLink RX4 83 Lib.Math.abs.name) (by decide +kernel)
  have k_msabs := hts (.static Lib.Math.abs.name) (by decide +kernel)
  have k_mi := hts (.initialized "java/lang/Math") (by decide +kernel)
  have k_mcabs := hts (.code Lib.Math.abs.name Lib.Math.abs.code 1 (some .int)) (by decide +kernel)
  have hS : va_S A H0 H0 [] := va_S.rf
  have hn12 := hg.n
  have hh16 := hg.hn
  refine lv_aload_n hx hb dX4_error_0 rfl (lv_at hl 0 rfl) ?_
  refine lv_aload_n hx hb dX4_error_1 rfl (lv_at hl 0 rfl) ?_
  refine lv_iload_n hx hb dX4_error_2 rfl (lv_at hl 1 rfl) ?_
  refine x_rd (va_runV (As := [.int x1]) (rest := [.ref (b 0)]) hC (c_X4_isHalo hP hmh) (cwV 1 hts gX4_error_X4_isHalo rfl rfl rfl qdX4_isHalo ⟨Nat.le_of_ble_eq_true rfl, Nat.le_of_ble_eq_true rfl⟩) (x_preV hK (x_recv hK (hP 0 _ rfl) rfl)) rfl rfl hl.1 rfl (lv_room (Nat.le_of_ble_eq_true rfl)) dX4_error_3 ⟨Nat.le_of_ble_eq_true rfl, Nat.le_of_ble_eq_true rfl⟩) ?_
  refine x_if_eqB (tgt := 13) hx hb dX4_error_6 (by decide) (fun c_1 => ?_) (fun c_1 => ?_)
  · refine lv_iconst (v := nI 1) hx hb dX4_error_13 (by decide +kernel) ?_
    refine va_put (D := gD G) (ci := 4) (v := .int (nI 1)) (ty := .int) (C := RX4) (T := TX4) (N := 11) hx hb hts in_X4 tyX4 tyX4_ok nmX4 hown hK hP hD hS 0 rfl rfl 0 (by decide) k_f25 (fun _ h9 => h9) rfl (by decide +kernel) rfl rfl (Nat.le_of_ble_eq_true rfl) dX4_error_14 (fun H locs hP hD hS => ?_)
    have hP : mP G b (va_up mi 0 (nI 1)) ma H := hP
    have hD : va_D A (mW G b (va_up mi 0 (nI 1)) ma) := hD
    refine lv_aload_n hx hb dX4_error_17 rfl (lv_at hl 0 rfl) ?_
    refine x_get (T := TX4) (N := 11) (v := .int (nI 1)) hx hb hts in_X4 hown hK (hP 0 _ rfl) rfl 0 (by decide) k_f25 (fun _ h9 => h9) (rfl) dX4_error_18 ?_
    refine x_if_eqN (tgt := 26) hx hb (by omega) dX4_error_21 (by decide) (fun c_2 => ?_) (fun c_2 => ?_)
    · exact absurd c_2 (by decide)
    · refine lv_dconst0 hx hb dX4_error_24 ?_
      have hkk9 : k1 (vS hn x1) = 1 := by simp only [k1, c_1] <;> rfl
      exact x_dret hQ hx hb hr hlk hS.2.2 dX4_error_25 ⟨hS.fr, mQx_mk (k0 := 1) hkk9 hP rfl hmn hmh rfl rfl (fun z => absurd z (by decide))⟩
  · refine lv_iconst (v := nI 0) hx hb dX4_error_9 (by decide +kernel) ?_
    refine lv_goto (tgt := 14) hx hb dX4_error_10 (by decide) ?_
    refine va_put (D := gD G) (ci := 4) (v := .int (nI 0)) (ty := .int) (C := RX4) (T := TX4) (N := 11) hx hb hts in_X4 tyX4 tyX4_ok nmX4 hown hK hP hD hS 0 rfl rfl 0 (by decide) k_f25 (fun _ h9 => h9) rfl (by decide +kernel) rfl rfl (Nat.le_of_ble_eq_true rfl) dX4_error_14 (fun H locs hP hD hS => ?_)
    have hP : mP G b (va_up mi 0 (nI 0)) ma H := hP
    have hD : va_D A (mW G b (va_up mi 0 (nI 0)) ma) := hD
    refine lv_aload_n hx hb dX4_error_17 rfl (lv_at hl 0 rfl) ?_
    refine x_get (T := TX4) (N := 11) (v := .int (nI 0)) hx hb hts in_X4 hown hK (hP 0 _ rfl) rfl 0 (by decide) k_f25 (fun _ h9 => h9) (rfl) dX4_error_18 ?_
    refine x_if_eqN (tgt := 26) hx hb (by omega) dX4_error_21 (by decide) (fun c_3 => ?_) (fun c_3 => ?_)
    · obtain ⟨j, hj, rfl⟩ := inR_nat (show hn < 2 ^ 30 by omega) c_1
      refine lv_aload_n hx hb dX4_error_26 rfl (lv_at hl 0 rfl) ?_
      refine lv_iload_n hx hb dX4_error_27 rfl (lv_at hl 1 rfl) ?_
      refine x_runv (va_runV (As := [.int (nI j)]) (rest := []) hC (c_X4_reckon hP hD hg (by omega) hmn ho) (cwV 1 hts gX4_error_X4_reckon rfl rfl rfl qdX4_reckon ⟨Nat.le_of_ble_eq_true rfl, Nat.le_of_ble_eq_true rfl⟩) (x_preV hK (x_recv hK (hP 0 _ rfl) rfl)) rfl rfl hl.1 rfl (lv_room (Nat.le_of_ble_eq_true rfl)) dX4_error_28 ⟨Nat.le_of_ble_eq_true rfl, Nat.le_of_ble_eq_true rfl⟩) hS (fun _ h => h) (fun H locs hfr hΦ hS => ?_)
      obtain ⟨sA4, rA4, vA4, hsA4, hrA4, hP⟩ := hΦ
      have hP : mP G b (va_up (va_up (va_up (va_up mi 0 (nI 0)) 3 (nI (sqL (ma 0) (ma 1) o j).length)) 4 (slp (ma 0) (ma 1) o j)) 5 (bas (ma 0) (ma 1) o j)) (va_up (va_up (va_up ma 2 sA4) 3 rA4) 4 vA4) H := hP
      have hD : va_D A (mW G b (va_up (va_up (va_up (va_up mi 0 (nI 0)) 3 (nI (sqL (ma 0) (ma 1) o j).length)) 4 (slp (ma 0) (ma 1) o j)) 5 (bas (ma 0) (ma 1) o j)) (va_up (va_up (va_up ma 2 sA4) 3 rA4) 4 vA4)) := hD.same rfl
      have hM4 : (sqL (ma 0) (ma 1) o j).length ≤ n := sqM_le ho
      refine lv_lconst (v := 0) hx hb dX4_error_31 (by decide +kernel) ?_
      refine lv_lstore_n (lv' := [(2, .long 0), (0, .ref (b 0)), (1, .int (nI j))]) hx hb dX4_error_32 rfl hl (by decide) rfl (fun ls hl => ?_)
      refine lv_iconst (v := nI 0) hx hb dX4_error_33 (by decide +kernel) ?_
      refine lv_istore (lv' := [(4, .int (nI 0)), (2, .long 0), (0, .ref (b 0)), (1, .int (nI j))]) hx hb dX4_error_34 hl (by decide) rfl (fun ls hl => ?_)
      have loop_5 : ∀ (fu : Nat) (k9 : Nat)  (ls : Array Slot), (sqL (ma 0) (ma 1) o j).length - k9 < fu → (k9 ≤ (sqL (ma 0) (ma 1) o j).length) → lv_has ls 5 [(0, .ref (b 0)), (1, .int (nI j)), (2, .long (lsm (fun k => ab (lf (ma 0) (ma 1) o j k)) k9)), (4, .int (nI k9))] → W p l e rmX4_error s m [.ref (b 0), .int (nI j)].toArray below meth c H locs 0 0 Q (F0 m 36 ls []) := by
        intro fu
        induction fu with
        | zero => intro k9 ls hms hk9 hl; exact absurd hms (Nat.not_lt_zero _)
        | succ fu ih_5 =>
          intro k9 ls hms hk9 hl
          refine lv_iload hx hb dX4_error_36 (lv_at hl 3 rfl) ?_
          refine lv_aload_n hx hb dX4_error_38 rfl (lv_at hl 0 rfl) ?_
          refine x_get (T := TX4) (N := 11) (v := .int (nI ((sqL (ma 0) (ma 1) o j).length))) hx hb hts in_X4 hown hK (hP 0 _ rfl) rfl 7 (by decide) k_f103 (fun _ h9 => h9) (rfl) dX4_error_39 ?_
          refine x_icmp_ge (tgt := 72) hx hb (by omega) (by omega) dX4_error_42 (by decide) (fun c_6 => ?_) (fun c_6 => ?_)
          · refine lv_aload_n hx hb dX4_error_72 rfl (lv_at hl 0 rfl) ?_
            refine x_get (T := TX4) (N := 11) (v := .int (nI ((sqL (ma 0) (ma 1) o j).length))) hx hb hts in_X4 hown hK (hP 0 _ rfl) rfl 7 (by decide) k_f103 (fun _ h9 => h9) (rfl) dX4_error_73 ?_
            refine lv_iconst (v := nI 2) hx hb dX4_error_76 (by decide +kernel) ?_
            refine x_icmp_ge (tgt := 84) hx hb (by omega) (by omega) dX4_error_77 (by decide) (fun c_7 => ?_) (fun c_7 => ?_)
            · refine lv_lload_n hx hb dX4_error_84 rfl (lv_at hl 2 rfl) ?_
              refine lv_l2d hx hb dX4_error_85 ?_
              refine lv_aload_n hx hb dX4_error_86 rfl (lv_at hl 0 rfl) ?_
              refine x_get (T := TX4) (N := 11) (v := .int (nI ((sqL (ma 0) (ma 1) o j).length))) hx hb hts in_X4 hown hK (hP 0 _ rfl) rfl 7 (by decide) k_f103 (fun _ h9 => h9) (rfl) dX4_error_87 ?_
              refine lv_i2d hx hb dX4_error_90 ?_
              refine lv_ddiv hx hb dX4_error_91 (hdn _ _ (by omega) (by omega)) ?_
              have hkk9 : k1 (vS hn (nI j)) = 0 := by simp only [k1, c_1] <;> rfl
              exact x_dret hQ hx hb hr hlk hS.2.2 dX4_error_92 ⟨hS.fr, mQx_mk (k0 := 0) hkk9 hP rfl hmn hmh rfl rfl (fun _ => by rw [nI_clamp (show j < 2 ^ 31 by omega), show k9 = (sqL (ma 0) (ma 1) o j).length by omega]; exact (if_neg (show ¬ (sqL (ma 0) (ma 1) o j).length < 2 by omega)).symm)⟩
            · refine lv_dconst0 hx hb dX4_error_80 ?_
              refine lv_goto (tgt := 92) hx hb dX4_error_81 (by decide) ?_
              have hkk9 : k1 (vS hn (nI j)) = 0 := by simp only [k1, c_1] <;> rfl
              exact x_dret hQ hx hb hr hlk hS.2.2 dX4_error_92 ⟨hS.fr, mQx_mk (k0 := 0) hkk9 hP rfl hmn hmh rfl rfl (fun _ => by rw [nI_clamp (show j < 2 ^ 31 by omega)]; exact (if_pos (show (sqL (ma 0) (ma 1) o j).length < 2 by omega)).symm)⟩
          · refine lv_aload_n hx hb dX4_error_45 rfl (lv_at hl 0 rfl) ?_
            refine x_get (T := TX4) (N := 11) (v := .int (nI ((sqL (ma 0) (ma 1) o j).length))) hx hb hts in_X4 hown hK (hP 0 _ rfl) rfl 7 (by decide) k_f103 (fun _ h9 => h9) (rfl) dX4_error_46 ?_
            refine lv_iconst (v := nI 1) hx hb dX4_error_49 (by decide +kernel) ?_
            refine x_icmp_le (tgt := 72) hx hb (by omega) (by omega) dX4_error_50 (by decide) (fun c_8 => ?_) (fun c_8 => ?_)
            · refine lv_aload_n hx hb dX4_error_72 rfl (lv_at hl 0 rfl) ?_
              refine x_get (T := TX4) (N := 11) (v := .int (nI ((sqL (ma 0) (ma 1) o j).length))) hx hb hts in_X4 hown hK (hP 0 _ rfl) rfl 7 (by decide) k_f103 (fun _ h9 => h9) (rfl) dX4_error_73 ?_
              refine lv_iconst (v := nI 2) hx hb dX4_error_76 (by decide +kernel) ?_
              refine x_icmp_ge (tgt := 84) hx hb (by omega) (by omega) dX4_error_77 (by decide) (fun c_9 => ?_) (fun c_9 => ?_)
              · exact absurd c_9 (by omega)
              · refine lv_dconst0 hx hb dX4_error_80 ?_
                refine lv_goto (tgt := 92) hx hb dX4_error_81 (by decide) ?_
                have hkk9 : k1 (vS hn (nI j)) = 0 := by simp only [k1, c_1] <;> rfl
                exact x_dret hQ hx hb hr hlk hS.2.2 dX4_error_92 ⟨hS.fr, mQx_mk (k0 := 0) hkk9 hP rfl hmn hmh rfl rfl (fun _ => by rw [nI_clamp (show j < 2 ^ 31 by omega)]; exact (if_pos (show (sqL (ma 0) (ma 1) o j).length < 2 by omega)).symm)⟩
            · refine lv_lload_n hx hb dX4_error_53 rfl (lv_at hl 2 rfl) ?_
              refine lv_aload_n hx hb dX4_error_54 rfl (lv_at hl 0 rfl) ?_
              refine lv_iload hx hb dX4_error_55 (lv_at hl 3 rfl) ?_
              refine x_rd (va_runV (As := [.int (nI k9)]) (rest := [.long (lsm (fun k => ab (lf (ma 0) (ma 1) o j k)) k9)]) hC (c_X4_left (q := sq (ma 0) (ma 1) o j) hP (by omega) (hsA4 _ (by omega)) (Nat.lt_of_lt_of_le (sq_lt ho (by omega)) hn12)) (cwV 1 hts gX4_error_X4_left rfl rfl rfl qdX4_left ⟨Nat.le_of_ble_eq_true rfl, Nat.le_of_ble_eq_true rfl⟩) (x_preV hK (x_recv hK (hP 0 _ rfl) rfl)) rfl rfl hl.1 rfl (lv_room (Nat.le_of_ble_eq_true rfl)) dX4_error_57 ⟨Nat.le_of_ble_eq_true rfl, Nat.le_of_ble_eq_true rfl⟩) ?_
              refine W.eq (g2 := F0 m 60 ls [.int (lf (ma 0) (ma 1) o j k9), .long (lsm (fun k => ab (lf (ma 0) (ma 1) o j k)) k9)]) (congrArg (fun z => F0 m 60 ls (.int z :: [.long (lsm (fun k => ab (lf (ma 0) (ma 1) o j k)) k9)])) (by simp only [lfv, lf]; rw [show ((va_up (va_up (va_up ma 2 sA4) 3 rA4) 4 vA4)) 3 k9 = rr (ma 0) (ma 1) o j k9 from hrA4 _ (by omega)]; rfl)) ?_
              refine va_mabs hx hb (hml.trans hl.1.symm) hown k_m83 k_msabs k_mi k_mcabs (by decide) (Nat.le_of_ble_eq_true rfl) (Nat.zero_le _) (Nat.zero_le _) dX4_error_60 ?_
              refine W.eq (g2 := F0 m 63 ls [.int (ab (lf (ma 0) (ma 1) o j k9)), .long (lsm (fun k => ab (lf (ma 0) (ma 1) o j k)) k9)]) rfl ?_
              refine lv_i2l (v := (ab (lf (ma 0) (ma 1) o j k9)).toInt64) hx hb dX4_error_63 rfl ?_
              refine lv_ladd hx hb dX4_error_64 ?_
              refine lv_lstore_n (lv' := [(2, .long ((lsm (fun k => ab (lf (ma 0) (ma 1) o j k)) k9) + ((ab (lf (ma 0) (ma 1) o j k9)).toInt64))), (0, .ref (b 0)), (1, .int (nI j)), (4, .int (nI k9))]) hx hb dX4_error_65 rfl hl (by decide) rfl (fun ls hl => ?_)
              refine lv_iinc (v := nI (k9 + 1)) (lv' := [(4, .int (nI (k9 + 1))), (2, .long ((lsm (fun k => ab (lf (ma 0) (ma 1) o j k)) k9) + ((ab (lf (ma 0) (ma 1) o j k9)).toInt64))), (0, .ref (b 0)), (1, .int (nI j))]) hx hb dX4_error_66 hl (k := 3) rfl (nI_incn _) (by decide) rfl (fun ls hl => ?_)
              refine lv_goto (tgt := 36) hx hb dX4_error_69 (by decide) ?_
              exact ih_5 (k9 + 1) ls (by omega) (by omega) (lv_sub hl [2, 3, 1, 0] rfl)
      exact loop_5 _ 0 ls (Nat.lt_succ_self _) (Nat.zero_le _) (lv_sub hl [2, 3, 1, 0] rfl)
    · exact absurd c_3 (by decide)
