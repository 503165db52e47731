-- ===== spread: the greatest difference is the greatest clock less the least =====
theorem mx_ti (x y : Int32) : (x.toInt ≤ (mx x y).toInt ∧ y.toInt ≤ (mx x y).toInt) ∧ (mx x y = x ∨ mx x y = y) := by
  unfold mx
  by_cases c : x < y
  · rw [if_pos c]; have := Int32.lt_iff_toInt_lt.mp c; exact ⟨⟨by omega, by omega⟩, Or.inr rfl⟩
  · rw [if_neg c]; have := mt Int32.lt_iff_toInt_lt.mpr c; exact ⟨⟨by omega, by omega⟩, Or.inl rfl⟩
theorem mn_ti (x y : Int32) : ((mn x y).toInt ≤ x.toInt ∧ (mn x y).toInt ≤ y.toInt) ∧ (mn x y = x ∨ mn x y = y) := by
  unfold mn
  by_cases c : y < x
  · rw [if_pos c]; have := Int32.lt_iff_toInt_lt.mp c; exact ⟨⟨by omega, by omega⟩, Or.inr rfl⟩
  · rw [if_neg c]; have := mt Int32.lt_iff_toInt_lt.mpr c; exact ⟨⟨by omega, by omega⟩, Or.inl rfl⟩
theorem hiC_spec (L : Nat → Int32) (t : Int32) : ∀ m, (∀ k, k ≤ m → (clk L k t).toInt ≤ (hiC L t m).toInt) ∧ ∃ k, k ≤ m ∧ hiC L t m = clk L k t := by
  intro m
  induction m with
  | zero => exact ⟨fun k hk => by rw [show k = 0 by omega]; exact Int.le_refl _, 0, Nat.le_refl _, rfl⟩
  | succ m ih =>
    obtain ⟨h1, k0, h2, h3⟩ := ih
    obtain ⟨⟨g1, g2⟩, g3⟩ := mx_ti (hiC L t m) (clk L (m + 1) t)
    refine ⟨fun k hk => ?_, ?_⟩
    · rcases Nat.lt_or_ge m k with c | c
      · rw [show k = m + 1 by omega]; exact g2
      · exact Int.le_trans (h1 k c) g1
    · rcases g3 with g | g
      · exact ⟨k0, by omega, (show hiC L t (m + 1) = _ from g).trans h3⟩
      · exact ⟨m + 1, Nat.le_refl _, g⟩
theorem loC_spec (L : Nat → Int32) (t : Int32) : ∀ m, (∀ k, k ≤ m → (loC L t m).toInt ≤ (clk L k t).toInt) ∧ ∃ k, k ≤ m ∧ loC L t m = clk L k t := by
  intro m
  induction m with
  | zero => exact ⟨fun k hk => by rw [show k = 0 by omega]; exact Int.le_refl _, 0, Nat.le_refl _, rfl⟩
  | succ m ih =>
    obtain ⟨h1, k0, h2, h3⟩ := ih
    obtain ⟨⟨g1, g2⟩, g3⟩ := mn_ti (loC L t m) (clk L (m + 1) t)
    refine ⟨fun k hk => ?_, ?_⟩
    · rcases Nat.lt_or_ge m k with c | c
      · rw [show k = m + 1 by omega]; exact g2
      · exact Int.le_trans g1 (h1 k c)
    · rcases g3 with g | g
      · exact ⟨k0, by omega, (show loC L t (m + 1) = _ from g).trans h3⟩
      · exact ⟨m + 1, Nat.le_refl _, g⟩
theorem sp2_spec {L : Nat → Int32} {t : Int32} {n a : Nat} (hw : ∀ k, k < n → wi 1000000000 (clk L k t)) (ha : a < n) (m : Int32) (P : Int32 → Prop) (hP : P m) (hPs : ∀ c, c < n → P (clk L a t - clk L c t)) : ∀ c, c ≤ n → (m.toInt ≤ (sp2 L t a m c).toInt ∧ ∀ k, k < c → (clk L a t).toInt - (clk L k t).toInt ≤ (sp2 L t a m c).toInt) ∧ P (sp2 L t a m c) := by
  intro c
  induction c with
  | zero => intro _; exact ⟨⟨Int.le_refl _, fun k hk => absurd hk (Nat.not_lt_zero _)⟩, hP⟩
  | succ c ih =>
    intro hc
    obtain ⟨⟨h1, h2⟩, h3⟩ := ih (by omega)
    obtain ⟨⟨g1, g2⟩, g3⟩ := mx_ti (sp2 L t a m c) (clk L a t - clk L c t)
    have wa := hw a ha
    have wc := hw c (by omega)
    unfold wi at wa wc
    rw [sub_toInt (by omega) (by omega)] at g2
    refine ⟨⟨Int.le_trans h1 g1, fun k hk => ?_⟩, ?_⟩
    · rcases Nat.lt_or_ge k c with e | e
      · exact Int.le_trans (h2 k e) g1
      · rw [show k = c by omega]; exact g2
    · rcases g3 with g | g
      · show P (mx (sp2 L t a m c) (clk L a t - clk L c t)); rw [g]; exact h3
      · show P (mx (sp2 L t a m c) (clk L a t - clk L c t)); rw [g]; exact hPs c (by omega)
theorem spA_spec {L : Nat → Int32} {t : Int32} {n : Nat} (hw : ∀ k, k < n → wi 1000000000 (clk L k t)) : ∀ a, a ≤ n → (∀ x k, x < a → k < n → (clk L x t).toInt - (clk L k t).toInt ≤ (spA L t n a).toInt) ∧ (spA L t n a = nI 0 ∨ ∃ x k, x < n ∧ k < n ∧ spA L t n a = clk L x t - clk L k t) := by
  intro a
  induction a with
  | zero => intro _; exact ⟨fun x k hx => absurd hx (Nat.not_lt_zero _), Or.inl rfl⟩
  | succ a ih =>
    intro ha
    obtain ⟨h1, h2⟩ := ih (by omega)
    obtain ⟨⟨g1, g2⟩, g3⟩ := sp2_spec hw (show a < n by omega) (spA L t n a) (fun z => z = nI 0 ∨ ∃ x k, x < n ∧ k < n ∧ z = clk L x t - clk L k t) h2 (fun c hc => Or.inr ⟨a, c, by omega, hc, rfl⟩) n (Nat.le_refl _)
    refine ⟨fun x k hx hk => ?_, g3⟩
    rcases Nat.lt_or_ge x a with e | e
    · exact Int.le_trans (h1 x k e hk) g1
    · rw [show x = a by omega]; exact g2 k hk
theorem spA_eq {L : Nat → Int32} {t : Int32} {n : Nat} (hw : ∀ k, k < n → wi 1000000000 (clk L k t)) : spA L t n n = if n = 0 then nI 0 else hiC L t (n - 1) - loC L t (n - 1) := by
  by_cases e : n = 0
  · rw [if_pos e, e]; rfl
  · rw [if_neg e]
    obtain ⟨h1, x, hx, hx2⟩ := hiC_spec L t (n - 1)
    obtain ⟨l1, y, hy, hy2⟩ := loC_spec L t (n - 1)
    obtain ⟨s1, s2⟩ := spA_spec hw n (Nat.le_refl _)
    have a1 := s1 x y (by omega) (by omega)
    have w1 := hw x (by omega)
    have w2 := hw y (by omega)
    unfold wi at w1 w2
    have b1 := h1 y (by omega)
    rw [hx2] at b1 h1 ⊢
    rw [hy2] at l1 ⊢
    apply Int32.toInt_inj.mp
    rw [sub_toInt (by omega) (by omega)]
    rcases s2 with s2 | ⟨u, v, hu, hv, s2⟩
    · rw [s2] at a1 ⊢
      have e0 : (nI 0).toInt = 0 := by decide
      rw [e0] at a1 ⊢
      omega
    · have w3 := hw u hu
      have w4 := hw v hv
      unfold wi at w3 w4
      have q1 := h1 u (by omega)
      have q2 := l1 v (by omega)
      rw [s2, sub_toInt (by omega) (by omega)] at a1 ⊢
      omega
theorem inR_ti {lo hi v : Int32} (h : inR lo hi v = true) : lo.toInt ≤ v.toInt ∧ v.toInt ≤ hi.toInt := by
  simp only [inR, Bool.and_eq_true, Bool.not_eq_true', decide_eq_false_iff_not] at h
  obtain ⟨h1, h2⟩ := h
  have g1 := mt Int32.lt_iff_toInt_lt.mpr h1
  have g2 := mt Int32.lt_iff_toInt_lt.mpr h2
  omega
theorem spread_eq {n hn : Nat} {L T : Nat → Int32} {t : Int32} (hg : OK n hn L T) (ht : inR (nI 0) (nI 1000000) t = true) : spA L t n n = if n = 0 then nI 0 else hiC L t (n - 1) - loC L t (n - 1) := by
  obtain ⟨h1, h2⟩ := inR_ti ht
  have e0 : (nI 0).toInt = 0 := by decide
  have e1 : (nI 1000000).toInt = 1000000 := by decide
  rw [e0] at h1
  rw [e1] at h2
  exact spA_eq (fun k hk => (clk_wi (hg.2.1 k hk) h1 h2 (by decide)).le (by decide))
theorem wire_eq {n hn i j : Nat} {L T : Nat → Int32} (hg : OK n hn L T) (hi : i < n) (hj : j < n) : ab (gL L j 0 - gL L i 0) = ab (gL L i 0 - gL L j 0) := ab_sub (hg.2.1 j hj).1 (hg.2.1 i hi).1
