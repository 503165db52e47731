-- ===== the class: its stations, halos and lists as facts of the heap =====
section XCAST
variable {p : Program} {l : Launch} {e : Env} {R : Room} {s : State} {m : MethodId} {args : Array Value} {below : List Frame} {meth : Method} {c : Code} {H : Heap} {locs : List Loc} {cells slots : Nat} {Q : State → Prop} {pc : Nat} {ls : Array Slot} {rest : List Value} {cc : ByteArray} {G : gT}
theorem x_cast (hexec : p.tables.exec = Jvm.exec) (hb : c.code = cc) {own C : String} {T : u_T} {N index a ci : Nat} {fs : List Value} (hown : s.vm.findClass own = some m.cls) (hlink : (Cond.classLink own index C).before args s = true) (hK : KK G s) (hat : pt G a (.inr (ci, fs)) H) (hc : vC[ci]? = some (C, T, N)) (hdg : decode cc pc = .ok (.checkcast index, 3))
    (k : W p l e R s m args below meth c H locs cells slots Q (F0 m (pc + 3) ls (.ref a :: rest))) : W p l e R s m args below meth c H locs cells slots Q (F0 m pc ls (.ref a :: rest)) := by
  obtain ⟨r, h1, cell, q1, q2, q3, -⟩ := hat
  exact va_castS hexec hb hown hlink (hK.1 ci _ hc).2 ⟨cell, q1, by rw [q3]; rfl, by rw [q2]; exact (hK.1 ci _ hc).2.1⟩ hdg k
end XCAST
/-- a station's cells -/
abbrev stO (L : Nat → Int32) (i : Nat) (f u : Nat) : va_E := .inr (2, [.int (nI i), .int (gL L i 0), .int (gL L i 1), .int (gL L i 2), .int (gL L i 3), .int (gL L i 4), .ref f, .ref u])
def stP (G : gT) (L : Nat → Int32) (sa fa ta : Nat → Nat) (F U : Nat → Nat → Int32) (i : Nat) (H : Heap) : Prop :=
  pt G (sa i) (stO L i (fa i) (ta i)) H ∧ pt G (fa i) (eI G 4 (F i)) H ∧ pt G (ta i) (eI G 4 (U i)) H ∧ ∀ k, k < nc L i → F i k = gL L i (5 + 2 * k) ∧ U i k = gL L i (5 + 2 * k + 1)
/-- a halo's cell -/
abbrev haP (G : gT) (T : Nat → Int32) (ha : Nat → Nat) (j : Nat) (H : Heap) : Prop := pt G (ha j) (.inr (0, [.int (gT' T j 0), .int (gT' T j 1), .int (gT' T j 2), .int (gT' T j 3)])) H
abbrev alO (mc : Int32) (ea n : Nat) : va_E := .inr (5, [.int mc, .ref ea, .int (nI n)])
/-- the list at a holds f 0 to f (n - 1) -/
def alR (G : gT) (a : Nat) (f : Nat → Nat) (n : Nat) (H : Heap) : Prop := ∃ (mc : Int32) (ea cap : Nat) (g : Nat → Option Nat), pt G a (alO mc ea n) H ∧ n ≤ cap ∧ cap ≤ 100 ∧ (0 < n → pt G ea (eQ G cap g) H) ∧ ∀ i, i < n → g i = some (f i)
theorem alR_recv {G : gT} {s : State} {a n : Nat} {f : Nat → Nat} {H : Heap} (hK : KK G s) (h : alR G a f n H) : ∃ cell : Cell, H[a]? = some cell ∧ cell.vm.isStatics = false ∧ s.vm.findClass RJx4a65c = some cell.cls := by
  obtain ⟨mc, ea, cap, g, h1, -⟩ := h
  exact x_recv hK h1 (q := (RJx4a65c, TJx4a65c, 3)) rfl
-- ===== numbers =====
theorem mul_toInt {x y : Int32} (h1 : -100000 ≤ x.toInt * y.toInt) (h2 : x.toInt * y.toInt ≤ 100000) : (x * y).toInt = x.toInt * y.toInt := by
  rw [Int32.toInt_mul]
  exact Int.bmod_eq_of_le (by omega) (by omega)
theorem sub_toInt {x y : Int32} (h1 : -2147483648 ≤ x.toInt - y.toInt) (h2 : x.toInt - y.toInt < 2147483648) : (x - y).toInt = x.toInt - y.toInt := by
  rw [Int32.toInt_sub]
  exact Int.bmod_eq_of_le (by omega) (by omega)
theorem add_toInt {x y : Int32} (h1 : -2147483648 ≤ x.toInt + y.toInt) (h2 : x.toInt + y.toInt < 2147483648) : (x + y).toInt = x.toInt + y.toInt := by
  rw [Int32.toInt_add]
  exact Int.bmod_eq_of_le (by omega) (by omega)
/-- the sign of way * dir, dir in -1 to 1 -/
theorem ag_pos {x y : Int32} (hx : -999 ≤ x.toInt ∧ x.toInt ≤ 999) (hy : -1 ≤ y.toInt ∧ y.toInt ≤ 1) : (0 ≤ x * y) ↔ ¬ (0 < y.toInt ∧ x.toInt < 0 ∨ y.toInt < 0 ∧ 0 < x.toInt) := by
  have hd : y.toInt = -1 ∨ y.toInt = 0 ∨ y.toInt = 1 := by omega
  have hm : (x * y).toInt = x.toInt * y.toInt := by
    refine mul_toInt ?_ ?_ <;> rcases hd with h | h | h <;> rw [h] <;> omega
  rw [Int32.le_iff_toInt_le, hm]
  show (0 : Int) ≤ _ ↔ _
  rcases hd with h | h | h <;> rw [h] <;> omega
theorem le0 {y : Int32} : y ≤ 0 ↔ y.toInt ≤ 0 := Int32.le_iff_toInt_le
theorem lt0 {y : Int32} : y < 0 ↔ y.toInt < 0 := Int32.lt_iff_toInt_lt
theorem ge0 {y : Int32} : 0 ≤ y ↔ 0 ≤ y.toInt := Int32.le_iff_toInt_le
theorem to1 {x t : Int32} (h : 0 < x.toInt) : (x - nI 1 < t) ↔ x ≤ t := by
  rw [Int32.lt_iff_toInt_lt, Int32.le_iff_toInt_le, sub_toInt (by show _ ≤ x.toInt - 1; omega) (by show x.toInt - 1 < _; have := x.toInt_lt; omega)]
  show x.toInt - 1 < _ ↔ _
  omega
theorem clr_no {L : Nat → Int32} {s : Nat} {t : Int32} {k : Nat} (h : inR (gL L s (5 + 2 * k)) (gL L s (5 + 2 * k + 1) - nI 1) t = true) : ∀ n, k < n → clr L s t n = false := by
  intro n
  induction n with
  | zero => intro hk; omega
  | succ n ih =>
    intro hk
    show (clr L s t n && !inR (gL L s (5 + 2 * n)) (gL L s (5 + 2 * n + 1) - nI 1) t) = false
    rcases Nat.lt_or_ge k n with e | e
    · rw [ih e]; rfl
    · have e2 : k = n := by omega
      rw [← e2, h]; exact Bool.and_false _
/-- what a clock reads, its correction apart -/
abbrev unc (L : Nat → Int32) (i : Nat) (t : Int32) : Int32 := t + gL L i 1 + gL L i 2 * t / nI 1000
