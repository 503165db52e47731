-- ===== what is reckoned, in numbers: L is the row of stations (13 numbers each), T that of halos (4 each) =====
def inR (lo hi v : Int32) : Bool := !decide (v < lo) && !decide (hi < v)
/-- a number below n -/
abbrev vS (n : Nat) (x : Int32) : Bool := inR (nI 0) (nI n - nI 1) x
abbrev gL (L : Nat → Int32) (s w : Nat) : Int32 := L (13 * s + w)
abbrev gT' (T : Nat → Int32) (h w : Nat) : Int32 := T (4 * h + w)
/-- what a clock reads -/
def clk (L : Nat → Int32) (s : Nat) (t : Int32) : Int32 := t + gL L s 1 + gL L s 2 * t / nI 1000 - gL L s 3
/-- when an edge comes; -1 if it does not -/
def cto (L T : Nat → Int32) (h s : Nat) : Int32 :=
  if 0 ≤ (gL L s 0 - gT' T h 1) * gT' T h 3 then gT' T h 0 + (nI 100 * ab (gL L s 0 - gT' T h 1) + gT' T h 2 - nI 1) / gT' T h 2 else (-1)
/-- no cloud of the first k is there at t -/
def clr (L : Nat → Int32) (s : Nat) (t : Int32) : Nat → Bool
  | 0 => true
  | k + 1 => clr L s t k && !inR (gL L s (5 + 2 * k)) (gL L s (5 + 2 * k + 1) - nI 1) t
def see (L T : Nat → Int32) (h s : Nat) : Bool := !decide (cto L T h s = (-1)) && clr L s (cto L T h s) (gL L s 4).toNatClampNeg
def rdg (L T : Nat → Int32) (h s : Nat) : Int32 := if see L T h s = true then clk L s (cto L T h s) else (-1000000)
/-- how many of the first k -/
def cnt (f : Nat → Bool) : Nat → Nat
  | 0 => 0
  | k + 1 => cnt f k + (f k).toNat
/-- a slope's rise along a place -/
def rise (sl pl : Int32) : Int32 := (sl.toInt64 * pl.toInt64 / 100).toInt32
theorem cnt_le (f : Nat → Bool) : ∀ k, cnt f k ≤ k
  | 0 => Nat.le_refl 0
  | k + 1 => by
    have h := cnt_le f k
    have h2 : (f k).toNat ≤ 1 := by cases f k <;> decide
    show cnt f k + (f k).toNat ≤ k + 1
    omega
theorem inR_nat {n : Nat} {x : Int32} (hn : n < 2 ^ 30) (h : inR (nI 0) (nI n - nI 1) x = true) : ∃ i : Nat, i < n ∧ x = nI i := by
  simp only [inR, Bool.and_eq_true, Bool.not_eq_true', decide_eq_false_iff_not] at h
  obtain ⟨h1, h2⟩ := h
  obtain ⟨j, hj, rfl⟩ := nI_of (x := x) h1
  rcases Nat.eq_zero_or_pos n with h0 | h0
  · subst h0
    exfalso
    apply h2
    have e : nI 0 - nI 1 = -1 := by decide
    rw [e]
    rcases Nat.eq_zero_or_pos j with hz | hz
    · subst hz; decide
    · exact Int32.lt_iff_toInt_lt.mpr (by rw [nI_toInt hj]; show (-1 : Int) < _; omega)
  · rw [pk_sub (show 1 ≤ n by omega), nI_ltI (by omega) hj] at h2
    exact ⟨j, by omega, rfl⟩
theorem inR_nat' {n j : Nat} (hn : n < 2 ^ 30) (hj : j < n) : inR (nI 0) (nI n - nI 1) (nI j) = true := by
  simp only [inR, Bool.and_eq_true, Bool.not_eq_true', decide_eq_false_iff_not]
  refine ⟨nI_nlt (Nat.zero_le _) (by omega), ?_⟩
  rw [pk_sub (show 1 ≤ n by omega), nI_ltI (by omega) (by omega)]
  omega
/-- the reference's cells: addresses b 0 to b 5, numbers mi (0 thrown, 1 stations, 2 halos, 3 many, 4 slope, 5 base), rows ma (0 line, 1 table, 2 seers, 3 readings, 4 values) -/
abbrev mW (G : gT) (b : Nat → Nat) (mi : Nat → Int32) (ma : Nat → Nat → Int32) : va_W := [(b 0, .inr (4, [.int (mi 0), .int (mi 1), .ref (b 1), .int (mi 2), .ref (b 2), .ref (b 3), .ref (b 4), .int (mi 3), .int (mi 4), .int (mi 5), .ref (b 5)])), (b 1, eI G 156 (ma 0)), (b 2, eI G 64 (ma 1)), (b 3, eI G 12 (ma 2)), (b 4, eI G 12 (ma 3)), (b 5, eI G 144 (ma 4))]
abbrev mP (G : gT) (b : Nat → Nat) (mi : Nat → Int32) (ma : Nat → Nat → Int32) (H : Heap) : Prop := va_P (gD G) vC (mW G b mi ma) H
theorem nbI (x : Bool) : narrow .boolean (.int (bI x)) = .int (bI x) := by cases x <;> decide
theorem x_iast {p : Program} {l : Launch} {e : Env} {R : Room} {s : State} {m : MethodId} {args : Array Value} {below : List Frame} {meth : Method} {c : Code} {H : Heap} {locs : List Loc} {cells slots : Nat} {Q : State → Prop} {pc : Nat} {ls : Array Slot} {rest : List Value} {cc : ByteArray} {G : gT} {A : Nat → Prop} {ws : va_W} {H0 : Heap} {a : Nat}
    (hexec : p.tables.exec = Jvm.exec) (hb : c.code = cc) (hK : KK G s) (hP : va_P (gD G) vC ws H) (hD : va_D A ws) (hS : va_S A H0 H locs) (q0 : Nat) {n : Nat} {f : Nat → Int32} (ha : ws[q0]? = some (a, eI G n f)) {i : Nat} {x : Int32} (hin : i < n) (hn : n < 2 ^ 31) (hdg : decode cc pc = .ok (.iastore, 1))
    (kk : ∀ (H1 : Heap) (locs1 : List Loc), va_P (gD G) vC (ws.set q0 (a, eI G n (upd f i x))) H1 → va_D A (ws.set q0 (a, eI G n (upd f i x))) → va_S A H0 H1 locs1 → W p l e R s m args below meth c H1 locs1 cells slots Q (F0 m (pc + 1) ls rest)) : W p l e R s m args below meth c H locs cells slots Q (F0 m pc ls (.int x :: .int (nI i) :: .ref a :: rest)) :=
  va_iast hexec hb hK hP hD hS q0 0 ha rfl (vp_in_nI hin hn) hdg (by rw [nI_clamp (by omega)]; exact kk)
theorem bI_z {B : Bool} (h : B = false) : nI 0 = bI B := by rw [h]; rfl
theorem bI_o {B : Bool} (h : B = true) : nI 1 = bI B := by rw [h]; rfl
/-- how many clouds -/
abbrev nc (L : Nat → Int32) (i : Nat) : Nat := (gL L i 4).toNatClampNeg
/-- a station's numbers lie where the document has them -/
def okS (L : Nat → Int32) (i : Nat) : Prop := (0 ≤ (gL L i 0).toInt ∧ (gL L i 0).toInt ≤ 999) ∧ (-600 ≤ (gL L i 1).toInt ∧ (gL L i 1).toInt ≤ 600) ∧ (-99 ≤ (gL L i 2).toInt ∧ (gL L i 2).toInt ≤ 99) ∧ (-100000 ≤ (gL L i 3).toInt ∧ (gL L i 3).toInt ≤ 100000) ∧ (gL L i 4 = nI (nc L i) ∧ nc L i ≤ 4) ∧ ∀ k, k < nc L i → 0 ≤ (gL L i (5 + 2 * k)).toInt ∧ (gL L i (5 + 2 * k)).toInt < (gL L i (5 + 2 * k + 1)).toInt
def okH (T : Nat → Int32) (j : Nat) : Prop := (0 ≤ (gT' T j 0).toInt ∧ (gT' T j 0).toInt ≤ 100000) ∧ (0 ≤ (gT' T j 1).toInt ∧ (gT' T j 1).toInt ≤ 999) ∧ (1 ≤ (gT' T j 2).toInt ∧ (gT' T j 2).toInt ≤ 99) ∧ (-1 ≤ (gT' T j 3).toInt ∧ (gT' T j 3).toInt ≤ 1)
def OK (n hn : Nat) (L T : Nat → Int32) : Prop := (n ≤ 12 ∧ hn ≤ 16) ∧ (∀ i, i < n → okS L i) ∧ (∀ j, j < hn → okH T j) ∧ ∀ i j, i < n → j < n → gL L i 0 = gL L j 0 → i = j
theorem OK.n {n hn : Nat} {L T : Nat → Int32} (h : OK n hn L T) : n ≤ 12 := h.1.1
theorem OK.hn {n hn : Nat} {L T : Nat → Int32} (h : OK n hn L T) : hn ≤ 16 := h.1.2
theorem OK.c {n hn : Nat} {L T : Nat → Int32} (h : OK n hn L T) {i : Nat} (hi : i < n) : gL L i 4 = nI (nc L i) := (h.2.1 i hi).2.2.2.2.1.1
theorem OK.c4 {n hn : Nat} {L T : Nat → Int32} (h : OK n hn L T) {i : Nat} (hi : i < n) : nc L i ≤ 4 := (h.2.1 i hi).2.2.2.2.1.2
theorem OK.sp {n hn : Nat} {L T : Nat → Int32} (h : OK n hn L T) {j : Nat} (hj : j < hn) : ¬ gT' T j 2 = 0 := fun z => by
  have h1 := (h.2.2.1 j hj).2.2.1.1
  rw [z] at h1
  exact absurd h1 (by decide)
theorem inR_natL {n : Nat} {x : Int32} (hn : n + 1 < 2 ^ 30) (h : inR (nI 0) (nI n) x = true) : ∃ i : Nat, i < n + 1 ∧ x = nI i := by
  refine inR_nat hn ?_
  rw [pk_sub (show 1 ≤ n + 1 by omega), Nat.add_sub_cancel]
  exact h
