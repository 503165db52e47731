-- ===== how large what is reckoned can be =====
def wi (B : Int) (x : Int32) : Prop := -B ≤ x.toInt ∧ x.toInt ≤ B
theorem div_wi {B : Int} {x y : Int32} (hB : B < 2147483648) (h : wi B x) : wi B (x / y) := by
  obtain ⟨h1, h2⟩ := h
  have h3 := Int.natAbs_tdiv_le_natAbs x.toInt y.toInt
  have e : (x / y).toInt = x.toInt.tdiv y.toInt := by
    rw [Int32.toInt_div]
    exact Int.bmod_eq_of_le (by omega) (by omega)
  unfold wi
  rw [e]
  omega
theorem div_nn {x y : Int32} (hx : 0 ≤ x.toInt) (hy : 0 ≤ y.toInt) : 0 ≤ (x / y).toInt ∧ (x / y).toInt ≤ x.toInt := by
  have h3 := Int.natAbs_tdiv_le_natAbs x.toInt y.toInt
  have h4 := Int.tdiv_nonneg hx hy
  have h5 := x.toInt_lt
  have e : (x / y).toInt = x.toInt.tdiv y.toInt := by
    rw [Int32.toInt_div]
    exact Int.bmod_eq_of_le (by omega) (by omega)
  rw [e]
  omega
theorem sub_wi {B C : Int} {x y : Int32} (hB : B + C < 2147483648) (hx : wi B x) (hy : wi C y) : wi (B + C) (x - y) := by
  obtain ⟨h1, h2⟩ := hx
  obtain ⟨h3, h4⟩ := hy
  unfold wi
  rw [sub_toInt (by omega) (by omega)]
  omega
theorem wi.le {B C : Int} {x : Int32} (h : wi B x) (hBC : B ≤ C) : wi C x := ⟨by have := h.1; omega, by have := h.2; omega⟩
theorem midL_mem {l : List Int32} (h : 0 < l.length) : midL l ∈ l := by
  have hl : (l.mergeSort (fun a b => decide (a ≤ b))).length = l.length := List.length_mergeSort l
  have hi : (l.length - 1) / 2 < (l.mergeSort (fun a b => decide (a ≤ b))).length := by omega
  unfold midL
  rw [List.getD_eq_getElem?_getD, List.getElem?_eq_getElem hi]
  exact (List.mergeSort_perm l _).mem_iff.mp (List.getElem_mem hi)
theorem rowS_mem {f : Nat → Nat → Int32} {a : Nat} {x : Int32} : ∀ b, x ∈ rowS f a b → ∃ k, a < k ∧ k < b ∧ x = f a k := by
  intro b
  induction b with
  | zero => intro h; exact absurd h List.not_mem_nil
  | succ b ih =>
    intro h
    rw [rowS] at h
    split at h
    · next c =>
      rcases List.mem_append.mp h with h | h
      · obtain ⟨k, h1, h2, h3⟩ := ih h; exact ⟨k, h1, by omega, h3⟩
      · exact ⟨b, c, by omega, List.mem_singleton.mp h⟩
    · obtain ⟨k, h1, h2, h3⟩ := ih h; exact ⟨k, h1, by omega, h3⟩
theorem allS_mem {f : Nat → Nat → Int32} {M : Nat} {x : Int32} : ∀ a, x ∈ allS f M a → ∃ c k, c < k ∧ k < M ∧ x = f c k := by
  intro a
  induction a with
  | zero => intro h; exact absurd h List.not_mem_nil
  | succ a ih =>
    intro h
    rcases List.mem_append.mp h with h | h
    · exact ih h
    · obtain ⟨k, h1, h2, h3⟩ := rowS_mem M h; exact ⟨a, k, h1, h2, h3⟩
theorem ab_wi {B : Int} {x : Int32} (hB : B < 2147483648) (h : wi B x) : 0 ≤ (ab x).toInt ∧ (ab x).toInt ≤ B := by
  obtain ⟨h1, h2⟩ := h
  unfold ab
  by_cases c : 0 ≤ x
  · rw [if_pos c]; exact ⟨ge0.mp c, h2⟩
  · rw [if_neg c]
    have := mt ge0.mpr c
    have h2 : (0 - x).toInt = 0 - x.toInt := sub_toInt (by show _ ≤ (0 : Int) - _; omega) (by show (0 : Int) - _ < _; omega)
    rw [h2]; omega
theorem mulB_toInt {x y : Int32} {B : Int} (h1 : -B ≤ x.toInt * y.toInt) (h2 : x.toInt * y.toInt ≤ B) (hB : B < 2147483648) : (x * y).toInt = x.toInt * y.toInt := by
  rw [Int32.toInt_mul]
  exact Int.bmod_eq_of_le (by omega) (by omega)
theorem prod_le {x y B C : Int} (h1 : -B ≤ x) (h2 : x ≤ B) (h3 : 0 ≤ y) (h4 : y ≤ C) : -(B * C) ≤ x * y ∧ x * y ≤ B * C := by
  have hB : 0 ≤ B := by omega
  have a1 : x * y ≤ B * y := Int.mul_le_mul_of_nonneg_right h2 h3
  have a2 : -B * y ≤ x * y := Int.mul_le_mul_of_nonneg_right h1 h3
  have a3 : B * y ≤ B * C := Int.mul_le_mul_of_nonneg_left h4 hB
  have a4 : -B * y = -(B * y) := Int.neg_mul B y
  omega
/-- when an edge comes -/
theorem cto_wi {L T : Nat → Int32} {h s : Nat} (hL : okS L s) (hT : okH T h) (hc : ¬ cto L T h s = -1) : 0 ≤ (cto L T h s).toInt ∧ (cto L T h s).toInt ≤ 199998 := by
  obtain ⟨⟨a1, a2⟩, -⟩ := hL
  obtain ⟨⟨b1, b2⟩, ⟨b3, b4⟩, ⟨b5, b6⟩, -⟩ := hT
  unfold cto at hc ⊢
  by_cases c : 0 ≤ (gL L s 0 - gT' T h 1) * gT' T h 3
  · rw [if_pos c]
    have e1 : (gL L s 0 - gT' T h 1).toInt = (gL L s 0).toInt - (gT' T h 1).toInt := sub_toInt (by omega) (by omega)
    obtain ⟨w1, w2⟩ := ab_wi (B := 999) (by omega) (x := gL L s 0 - gT' T h 1) ⟨by rw [e1]; omega, by rw [e1]; omega⟩
    have e100 : (nI 100).toInt = 100 := by decide
    have e1n : (nI 1).toInt = 1 := by decide
    have e2 : (nI 100 * ab (gL L s 0 - gT' T h 1)).toInt = 100 * (ab (gL L s 0 - gT' T h 1)).toInt := by
      rw [mul_toInt (by rw [e100]; omega) (by rw [e100]; omega), e100]
    have e3 : (nI 100 * ab (gL L s 0 - gT' T h 1) + gT' T h 2).toInt = 100 * (ab (gL L s 0 - gT' T h 1)).toInt + (gT' T h 2).toInt := by
      rw [add_toInt (by rw [e2]; omega) (by rw [e2]; omega), e2]
    have e4 : (nI 100 * ab (gL L s 0 - gT' T h 1) + gT' T h 2 - nI 1).toInt = 100 * (ab (gL L s 0 - gT' T h 1)).toInt + (gT' T h 2).toInt - 1 := by
      rw [sub_toInt (by rw [e3, e1n]; omega) (by rw [e3, e1n]; omega), e3, e1n]
    obtain ⟨d1, d2⟩ := div_nn (x := nI 100 * ab (gL L s 0 - gT' T h 1) + gT' T h 2 - nI 1) (y := gT' T h 2) (by rw [e4]; omega) (by omega)
    rw [e4] at d2
    rw [add_toInt (by omega) (by omega)]
    omega
  · rw [if_neg c] at hc
    exact absurd rfl hc
theorem div1000 {N : Int} {x : Int32} (h : wi (99 * N) x) (h0 : 0 ≤ N) (hN : N ≤ 2000000) : wi (N / 10) (x / nI 1000) := by
  obtain ⟨h1, h2⟩ := h
  have e1000 : (nI 1000).toInt = 1000 := by decide
  have h3 : (x.toInt.tdiv 1000).natAbs = x.toInt.natAbs / 1000 := Int.natAbs_tdiv x.toInt 1000
  have e : (x / nI 1000).toInt = x.toInt.tdiv 1000 := by
    rw [Int32.toInt_div, e1000]
    exact Int.bmod_eq_of_le (by omega) (by omega)
  unfold wi
  rw [e]
  omega
/-- what a clock reads at a time up to N -/
theorem unc_wi {L : Nat → Int32} {s : Nat} {t : Int32} {N : Int} (hL : okS L s) (ht : 0 ≤ t.toInt) (hN : t.toInt ≤ N) (hN2 : N ≤ 2000000) : wi (N + N / 10 + 600) (unc L s t) := by
  obtain ⟨-, ⟨b1, b2⟩, ⟨b3, b4⟩, -⟩ := hL
  have hm := prod_le b3 b4 ht hN
  have e1 : (gL L s 2 * t).toInt = (gL L s 2).toInt * t.toInt := mulB_toInt (B := 99 * N) (by omega) (by omega) (by omega)
  have hd := div1000 (x := gL L s 2 * t) ⟨by rw [e1]; omega, by rw [e1]; omega⟩ (by omega) hN2
  obtain ⟨d1, d2⟩ := hd
  have e2 : (t + gL L s 1).toInt = t.toInt + (gL L s 1).toInt := add_toInt (by omega) (by omega)
  unfold wi unc
  rw [add_toInt (by rw [e2]; omega) (by rw [e2]; omega), e2]
  omega
theorem clk_wi {L : Nat → Int32} {s : Nat} {t : Int32} {N : Int} (hL : okS L s) (ht : 0 ≤ t.toInt) (hN : t.toInt ≤ N) (hN2 : N ≤ 2000000) : wi (N + N / 10 + 600 + 100000) (clk L s t) :=
  sub_wi (by omega) (unc_wi hL ht hN hN2) ⟨hL.2.2.2.1.1, hL.2.2.2.1.2⟩
theorem rdg_wi {L T : Nat → Int32} {h s : Nat} (hL : okS L s) (hT : okH T h) (hs : see L T h s = true) : wi 400000 (rdg L T h s) := by
  have hc : ¬ cto L T h s = -1 := fun z => by
    unfold see at hs
    rw [decide_eq_true z] at hs
    exact absurd hs (by simp)
  obtain ⟨c1, c2⟩ := cto_wi hL hT hc
  unfold rdg
  rw [if_pos hs]
  exact (clk_wi hL c1 c2 (by omega)).le (by decide)
section LFW
variable {L T : Nat → Int32} {n hn j : Nat} {o : List Nat}
theorem rr_wi (hg : OK n hn L T) (ho : IsOrd (fun s => gL L s 0) n o) (hj : j < hn) {k : Nat} (hk : k < (sqL L T o j).length) : wi 400000 (rr L T o j k) :=
  rdg_wi (hg.2.1 _ (sq_lt ho hk)) (hg.2.2.1 _ hj) (sq_see hk)
theorem sv_wi (hg : OK n hn L T) (ho : IsOrd (fun s => gL L s 0) n o) (hj : j < hn) {a b : Nat} (ha : a < (sqL L T o j).length) (hb : b < (sqL L T o j).length) : wi 80000000 (sv L T o j a b) := by
  have h1 := sub_wi (by omega) (rr_wi hg ho hj hb) (rr_wi hg ho hj ha)
  obtain ⟨h2, h3⟩ := h1
  have e100 : (nI 100).toInt = 100 := by decide
  have e : (nI 100 * (rr L T o j b - rr L T o j a)).toInt = 100 * (rr L T o j b - rr L T o j a).toInt := by
    rw [mulB_toInt (B := 80000000) (by rw [e100]; omega) (by rw [e100]; omega) (by omega), e100]
  exact div_wi (by omega) ⟨by rw [e]; omega, by rw [e]; omega⟩
theorem slp_wi (hg : OK n hn L T) (ho : IsOrd (fun s => gL L s 0) n o) (hj : j < hn) (hM : 2 ≤ (sqL L T o j).length) : wi 80000000 (slp L T o j) := by
  unfold slp
  rw [if_neg (show ¬ (sqL L T o j).length < 2 by omega)]
  obtain ⟨c, k, h1, h2, h3⟩ := allS_mem _ (midL_mem (allS_pos (sv L T o j) (M := (sqL L T o j).length) hM))
  rw [h3]
  exact sv_wi hg ho hj (by omega) h2
theorem i64_32 {x : Int32} : x.toInt64.toInt = x.toInt := Int32.toInt_toInt64 x
theorem rise_wi {sl pl : Int32} (h1 : wi 80000000 sl) (h2 : 0 ≤ pl.toInt ∧ pl.toInt ≤ 999) : wi 799200000 (rise sl pl) := by
  obtain ⟨a1, a2⟩ := h1
  have hm := prod_le a1 a2 h2.1 h2.2
  have e1 : (sl.toInt64 * pl.toInt64).toInt = sl.toInt * pl.toInt := by
    rw [Int64.toInt_mul, i64_32, i64_32]
    exact Int.bmod_eq_of_le (by omega) (by omega)
  have h3 : ((sl.toInt * pl.toInt).tdiv 100).natAbs = (sl.toInt * pl.toInt).natAbs / 100 := Int.natAbs_tdiv (sl.toInt * pl.toInt) 100
  have e100 : (100 : Int64).toInt = 100 := by decide
  have e2 : (sl.toInt64 * pl.toInt64 / 100).toInt = (sl.toInt * pl.toInt).tdiv 100 := by
    rw [Int64.toInt_div, e1, e100]
    exact Int.bmod_eq_of_le (by omega) (by omega)
  have e3 : (rise sl pl).toInt = (sl.toInt * pl.toInt).tdiv 100 := by
    unfold rise
    rw [Int64.toInt_toInt32, e2]
    exact Int.bmod_eq_of_le (by omega) (by omega)
  unfold wi
  rw [e3]
  omega
theorem rb_wi (hg : OK n hn L T) (ho : IsOrd (fun s => gL L s 0) n o) (hj : j < hn) (hM : 2 ≤ (sqL L T o j).length) {k : Nat} (hk : k < (sqL L T o j).length) : wi 799600000 (rr L T o j k - rise (slp L T o j) (gL L (sq L T o j k) 0)) :=
  sub_wi (B := 400000) (C := 799200000) (by omega) (rr_wi hg ho hj hk) (rise_wi (slp_wi hg ho hj hM) (hg.2.1 _ (sq_lt ho hk)).1)
theorem bas_wi (hg : OK n hn L T) (ho : IsOrd (fun s => gL L s 0) n o) (hj : j < hn) (hM : 2 ≤ (sqL L T o j).length) : wi 799600000 (bas L T o j) := by
  unfold bas
  rw [if_neg (show ¬ (sqL L T o j).length < 2 by omega)]
  have hm := midL_mem (l := ls' (fun k => rr L T o j k - rise (slp L T o j) (gL L (sq L T o j k) 0)) (sqL L T o j).length) (by rw [ls'_len]; omega)
  obtain ⟨k, hk, e⟩ := List.mem_map.mp hm
  have hk2 := List.mem_range.mp hk
  show wi _ (midL _)
  rw [← e]
  exact rb_wi hg ho hj hM hk2
theorem lf_wi (hg : OK n hn L T) (ho : IsOrd (fun s => gL L s 0) n o) (hj : j < hn) (hM : 2 ≤ (sqL L T o j).length) {k : Nat} (hk : k < (sqL L T o j).length) : wi 1599200000 (lf L T o j k) :=
  sub_wi (B := 799600000) (C := 799600000) (by omega) (rb_wi hg ho hj hM hk) (bas_wi hg ho hj hM)
theorem lf_nn (hg : OK n hn L T) (ho : IsOrd (fun s => gL L s 0) n o) (hj : j < hn) (hM : 2 ≤ (sqL L T o j).length) : ∀ k, k < (sqL L T o j).length → 0 ≤ (ab (lf L T o j k)).toInt :=
  fun k hk => (ab_wi (by omega) (lf_wi hg ho hj hM hk)).1
end LFW
/-- the size of a difference -/
theorem ab_sub {x y : Int32} (hx : 0 ≤ x.toInt ∧ x.toInt ≤ 999) (hy : 0 ≤ y.toInt ∧ y.toInt ≤ 999) : ab (x - y) = ab (y - x) := by
  have e1 : (x - y).toInt = x.toInt - y.toInt := sub_toInt (by omega) (by omega)
  have e2 : (y - x).toInt = y.toInt - x.toInt := sub_toInt (by omega) (by omega)
  have e3 : (0 - (x - y)).toInt = 0 - (x.toInt - y.toInt) := by rw [← e1]; exact sub_toInt (by show _ ≤ (0 : Int) - _; omega) (by show (0 : Int) - _ < _; omega)
  have e4 : (0 - (y - x)).toInt = 0 - (y.toInt - x.toInt) := by rw [← e2]; exact sub_toInt (by show _ ≤ (0 : Int) - _; omega) (by show (0 : Int) - _ < _; omega)
  apply Int32.toInt_inj.mp
  unfold ab
  by_cases c1 : 0 ≤ x - y
  · rw [if_pos c1]
    have d1 := ge0.mp c1
    by_cases c2 : 0 ≤ y - x
    · rw [if_pos c2]; have d2 := ge0.mp c2; omega
    · rw [if_neg c2, e4]; omega
  · rw [if_neg c1]
    have d1 := mt ge0.mpr c1
    by_cases c2 : 0 ≤ y - x
    · rw [if_pos c2, e3]; omega
    · have d2 := mt ge0.mpr c2; omega
