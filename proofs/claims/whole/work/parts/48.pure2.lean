-- ===== spread: the greatest difference is the greatest clock less the least =====
theorem mx_ti (x y : Int32) : (x.toInt ≤ (mx x y).toInt ∧ y.toInt ≤ (mx x y).toInt) ∧ (mx x y = x ∨ mx x y = y) := by
  unfold mx
  by_cases c : x < y
  · rw [if_pos c]; have := Int32.lt_iff_toInt_lt.mp c; exact ⟨⟨by omega, by omega⟩, Or.inr rfl⟩
  · rw [if_neg c]; have := mt Int32.lt_iff_toInt_lt.mpr c; exact ⟨⟨by omega, by omega⟩, Or.inl rfl⟩
theorem mn_ti (x y : Int32) : ((mn x y).toInt ≤ x.toInt ∧ (mn x y).toInt ≤ y.toInt) ∧ (mn x y = x ∨ mn x y = y) := by
  unfold mn
  by_cases c : y < x
  · rw [if_pos c]; have := Int32.lt_iff_toInt_lt.mp c; exact ⟨⟨by omega, by omega⟩, Or.inr rfl⟩
  · rw [if_neg c]; have := mt Int32.lt_iff_toInt_lt.mpr c; exact ⟨⟨by omega, by omega⟩, Or.inl rfl⟩
theorem hiC_spec (L : Nat → Int32) (t : Int32) : ∀ m, (∀ k, k ≤ m → (clk L k t).toInt ≤ (hiC L t m).toInt) ∧ ∃ k, k ≤ m ∧ hiC L t m = clk L k t := by
  intro m
  induction m with
  | zero => exact ⟨fun k hk => by rw [show k = 0 by omega]; exact Int.le_refl _, 0, Nat.le_refl _, rfl⟩
  | succ m ih =>
    obtain ⟨h1, k0, h2, h3⟩ := ih
    obtain ⟨⟨g1, g2⟩, g3⟩ := mx_ti (hiC L t m) (clk L (m + 1) t)
    refine ⟨fun k hk => ?_, ?_⟩
    · rcases Nat.lt_or_ge m k with c | c
      · rw [show k = m + 1 by omega]; exact g2
      · exact Int.le_trans (h1 k c) g1
    · rcases g3 with g | g
      · exact ⟨k0, by omega, (show hiC L t (m + 1) = _ from g).trans h3⟩
      · exact ⟨m + 1, Nat.le_refl _, g⟩
theorem loC_spec (L : Nat → Int32) (t : Int32) : ∀ m, (∀ k, k ≤ m → (loC L t m).toInt ≤ (clk L k t).toInt) ∧ ∃ k, k ≤ m ∧ loC L t m = clk L k t := by
  intro m
  induction m with
  | zero => exact ⟨fun k hk => by rw [show k = 0 by omega]; exact Int.le_refl _, 0, Nat.le_refl _, rfl⟩
  | succ m ih =>
    obtain ⟨h1, k0, h2, h3⟩ := ih
    obtain ⟨⟨g1, g2⟩, g3⟩ := mn_ti (loC L t m) (clk L (m + 1) t)
    refine ⟨fun k hk => ?_, ?_⟩
    · rcases Nat.lt_or_ge m k with c | c
      · rw [show k = m + 1 by omega]; exact g2
      · exact Int.le_trans g1 (h1 k c)
    · rcases g3 with g | g
      · exact ⟨k0, by omega, (show loC L t (m + 1) = _ from g).trans h3⟩
      · exact ⟨m + 1, Nat.le_refl _, g⟩
