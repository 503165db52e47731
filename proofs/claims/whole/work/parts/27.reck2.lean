-- ===== pure steps of the class's reckoning =====
theorem colS_upd {f : Nat → Nat → Int32} {a b : Nat} {v : Nat → Int32} {l : List Int32} (hv : ls' v (l ++ colR f b a).length = l ++ colR f b a) : ls' (upd v (l ++ colR f b a).length (f a b)) (l ++ colR f b (a + 1)).length = l ++ colR f b (a + 1) := by
  have e : l ++ colR f b (a + 1) = (l ++ colR f b a) ++ [f a b] := by rw [colR, List.append_assoc]
  have e2 : ((l ++ colR f b a) ++ [f a b]).length = (l ++ colR f b a).length + 1 := @List.length_append _ (l ++ colR f b a) [f a b]
  rw [e, e2]
  exact (ls'_upd v _ _).trans (by rw [hv])
theorem colS_ul {f : Nat → Nat → Int32} {a b : Nat} {l : List Int32} : (l ++ colR f b (a + 1)).length = (l ++ colR f b a).length + 1 := by
  rw [colR, ← List.append_assoc]
  exact @List.length_append _ (l ++ colR f b a) [f a b]
theorem IsOrd.gt {P : Nat → Int32} {n : Nat} {o : List Nat} (h : IsOrd P n o) {x : Nat} (hx : x < n) : o[x]? = some (o.getD x 0) ∧ o.getD x 0 < n := by
  have hl : x < o.length := by rw [h.2.2]; exact hx
  have e : o[x]? = some (o.getD x 0) := by rw [List.getD_eq_getElem?_getD, List.getElem?_eq_getElem hl]; rfl
  exact ⟨e, h.lt e⟩
theorem pl_pos {x y : Int32} (hx : 0 ≤ x.toInt ∧ x.toInt ≤ 999) (hy : 0 ≤ y.toInt ∧ y.toInt ≤ 999) (h : x < y) : ¬ y - x ≤ 0 := by
  have h2 := Int32.lt_iff_toInt_lt.mp h
  intro z
  have z2 := le0.mp z
  rw [sub_toInt (by omega) (by omega)] at z2
  omega
/-- the class's odd one of the first i: its size, number, and what is left of it -/
def OD (a f : Nat → Int32) (q : Nat → Nat) (i : Nat) (mo od lo : Int32) : Prop := (i = 0 ∧ mo = -1) ∨ (0 < i ∧ mo = a (ob a q i) ∧ od = nI (q (ob a q i)) ∧ lo = f (ob a q i))
theorem od_take {a f : Nat → Int32} {q : Nat → Nat} {i : Nat} {mo od lo : Int32} (h : OD a f q i mo od lo) (hn : ∀ k, k ≤ i → 0 ≤ (a k).toInt) (hq : ∀ k, k ≤ i → q k < 12) (c : mo < a i ∨ (a i = mo ∧ ¬ od ≤ nI (q i))) : OD a f q (i + 1) (a i) (nI (q i)) (f i) := by
  have e : ob a q (i + 1) = i := by
    rcases h with ⟨h0, -⟩ | ⟨h0, h1, h2, -⟩
    · rw [h0]; exact ob_1 a q
    · have hl := ob_lt a q i h0
      have hb : bt a q i (ob a q i) = true := by
        unfold bt
        rcases c with c | ⟨c1, c2⟩
        · rw [decide_eq_true ((cmp_gt (hn i (Nat.le_refl _)) (hn _ (by omega))).mpr (h1 ▸ c))]; rfl
        · rw [decide_eq_true (cmp_eq.mpr (c1.trans h1)), decide_eq_true (p := q i < q (ob a q i)) (by
            rw [h2] at c2
            have hq1 := hq i (Nat.le_refl _)
            have hq2 := hq (ob a q i) (by omega)
            have := mt (nI_leI (show q (ob a q i) < 2 ^ 31 by omega) (show q i < 2 ^ 31 by omega)).mpr c2
            omega)]
          exact Bool.or_true _
      show (if bt a q i (ob a q i) = true then i else ob a q i) = i
      rw [if_pos hb]
  exact Or.inr ⟨Nat.succ_pos i, by rw [e], by rw [e], by rw [e]⟩
theorem od_keep {a f : Nat → Int32} {q : Nat → Nat} {i : Nat} {mo od lo : Int32} (h : OD a f q i mo od lo) (hn : ∀ k, k ≤ i → 0 ≤ (a k).toInt) (hq : ∀ k, k ≤ i → q k < 12) (c : ¬ mo < a i) (c2 : ¬ a i = mo ∨ od ≤ nI (q i)) : OD a f q (i + 1) mo od lo := by
  rcases h with ⟨h0, h1⟩ | ⟨h0, h1, h2, h3⟩
  · exfalso
    apply c
    rw [h1, h0]
    exact Int32.lt_iff_toInt_lt.mpr (by have := hn 0 (Nat.zero_le _); show (-1 : Int) < _; omega)
  · have hl := ob_lt a q i h0
    have hb : bt a q i (ob a q i) = false := by
      unfold bt
      rw [decide_eq_false (fun z => c (h1 ▸ (cmp_gt (hn i (Nat.le_refl _)) (hn _ (by omega))).mp z)), Bool.false_or]
      rcases c2 with c2 | c2
      · rw [decide_eq_false (fun z => c2 ((cmp_eq.mp z).trans h1.symm))]; rfl
      · rw [decide_eq_false (p := q i < q (ob a q i)) (by
          rw [h2] at c2
          have hq1 := hq i (Nat.le_refl _)
          have hq2 := hq (ob a q i) (by omega)
          have := (nI_leI (show q (ob a q i) < 2 ^ 31 by omega) (show q i < 2 ^ 31 by omega)).mp c2
          omega)]
        exact Bool.and_false _
    have e : ob a q (i + 1) = ob a q i := by
      show (if bt a q i (ob a q i) = true then i else ob a q i) = ob a q i
      rw [if_neg (by rw [hb]; decide)]
    exact Or.inr ⟨Nat.succ_pos i, by rw [e]; exact h1, by rw [e]; exact h2, by rw [e]; exact h3⟩
abbrev rR (ri : Nat → Int32) (v w x y z : Int32) : Nat → Int32 := va_up (va_up (va_up (va_up (va_up ri 0 v) 1 w) 2 x) 3 y) 4 z
