-- ===== the stations' cells, all in rs =====
def stR (G : gT) (rs : Nat → Prop) (L : Nat → Int32) (sa fa ta : Nat → Nat) (F U : Nat → Nat → Int32) (n : Nat) (H : Heap) : Prop := ∀ i, i < n → stP G L sa fa ta F U i H ∧ rs (sa i) ∧ rs (fa i) ∧ rs (ta i)
theorem stP.kp {G : gT} {L : Nat → Int32} {sa fa ta : Nat → Nat} {F U : Nat → Nat → Int32} {i : Nat} {H H1 : Heap} (h : stP G L sa fa ta F U i H) (hk : ∀ q, q < H.size → q = sa i ∨ q = fa i ∨ q = ta i → H1[q]? = H[q]?) : stP G L sa fa ta F U i H1 := by
  obtain ⟨q1, q2, q3, q4⟩ := h
  exact ⟨va_at.kept q1 (hk _ (va_at.lt q1) (Or.inl rfl)), va_at.kept q2 (hk _ (va_at.lt q2) (Or.inr (Or.inl rfl))), va_at.kept q3 (hk _ (va_at.lt q3) (Or.inr (Or.inr rfl))), q4⟩
theorem stR.kp {G : gT} {rs : Nat → Prop} {L : Nat → Int32} {sa fa ta : Nat → Nat} {F U : Nat → Nat → Int32} {n : Nat} {H H1 : Heap} (h : stR G rs L sa fa ta F U n H) (hk : ∀ q, q < H.size → rs q → H1[q]? = H[q]?) : stR G rs L sa fa ta F U n H1 := fun i hi => by
  obtain ⟨q, r1, r2, r3⟩ := h i hi
  refine ⟨q.kp (fun a ha e => hk a ha ?_), r1, r2, r3⟩
  rcases e with e | e | e
  · rw [e]; exact r1
  · rw [e]; exact r2
  · rw [e]; exact r3
theorem lt_no {A : Nat → Prop} {z q : Nat} (e : A = fun q => z ≤ q) (h : q < z) : ¬ A q := fun h9 => by
  rw [e] at h9
  exact absurd h9 (Nat.not_le.mpr h)
theorem ge_yes {A : Nat → Prop} {z q : Nat} (e : A = fun q => z ≤ q) (h : z ≤ q) : A q := by
  rw [e]; exact h
theorem yes_ge {A : Nat → Prop} {z q : Nat} (e : A = fun q => z ≤ q) (h : A q) : z ≤ q := by
  rw [e] at h; exact h
