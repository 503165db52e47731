-- ===== the law's world: every cell of it has a tag =====
/-- tags: 1 the class's object, 2 to 8 the reckoning, 9 the misses, 10 to 15 the lists and their rows, 20 to 25 the reference, 30, 31 the rows of answers, 40 + j halos, 100 + 3 i.. stations -/
abbrev tgS (tg : Nat → Nat) (k : Nat) : Nat → Prop := fun q => tg q = k ∨ tg q = k + 1
abbrev tgC (tg : Nat → Nat) : Nat → Prop := fun q => (1 ≤ tg q ∧ tg q ≤ 15) ∨ 40 ≤ tg q
abbrev tgM (tg : Nat → Nat) : Nat → Prop := fun q => 20 ≤ tg q ∧ tg q ≤ 25
/-- the class's cells and what isn't there yet -/
abbrev aC (tg : Nat → Nat) (H : Heap) : Nat → Prop := fun q => tgC tg q ∨ H.size ≤ q
def TG (tg : Nat → Nat) (xa : Nat) (rb : Nat → Nat) (m9 : Nat) (sa fa ta ha : Nat → Nat) (n hn : Nat) : Prop := (tg xa = 1 ∧ (∀ k, k < 7 → tg (rb k) = 2 + k) ∧ tg m9 = 9) ∧ (∀ i, i < n → tg (sa i) = 100 + 3 * i ∧ tg (fa i) = 101 + 3 * i ∧ tg (ta i) = 102 + 3 * i) ∧ ∀ j, j < hn → tg (ha j) = 40 + j
def CWx (G : gT) (z0 : Nat) (tg : Nat → Nat) (xa n hn : Nat) (L T : Nat → Int32) (o : List Nat) (sa fa ta ha : Nat → Nat) (F U : Nat → Nat → Int32) (aS aB aH : Nat) (rb : Nat → Nat) (ri : Nat → Int32) (ra : Nat → Nat → Int32) (m9 : Nat) (mf : Nat → Int32) (H : Heap) : Prop :=
  (pt G xa (.inr (3, [.ref aS, .ref aB, .ref aH, .ref (rb 0), .ref m9])) H ∧ rP G rb ri ra H ∧ pt G m9 (eI G 16 mf) H) ∧ (alZ G z0 (tgS tg 10) aS sa n H ∧ alZ G z0 (tgS tg 12) aB (fun k => sa (o.getD k 0)) n H ∧ alZ G z0 (tgS tg 14) aH ha hn H) ∧ ((∀ i, i < n → stP G L sa fa ta F U i H) ∧ ∀ j, j < hn → haP G T ha j H) ∧ TG tg xa rb m9 sa fa ta ha n hn
/-- the class's state n, hn, L, T, o in its cells -/
def CW (G : gT) (z0 : Nat) (tg : Nat → Nat) (xa n hn : Nat) (L T : Nat → Int32) (o : List Nat) (H : Heap) : Prop :=
  ∃ (sa fa ta ha : Nat → Nat) (F U : Nat → Nat → Int32) (aS aB aH : Nat) (rb : Nat → Nat) (ri : Nat → Int32) (ra : Nat → Nat → Int32) (m9 : Nat) (mf : Nat → Int32), CWx G z0 tg xa n hn L T o sa fa ta ha F U aS aB aH rb ri ra m9 mf H
theorem ptl {G : gT} {a : Nat} {e : va_E} {H : Heap} (h : pt G a e H) : a < H.size := va_at.lt h
theorem ptk {G : gT} {a : Nat} {e : va_E} {H H1 : Heap} (h : pt G a e H) (hk : a < H.size → H1[a]? = H[a]?) : pt G a e H1 := va_at.kept h (hk (va_at.lt h))
theorem rW_at {G : gT} {rb : Nat → Nat} {ri : Nat → Int32} {ra : Nat → Nat → Int32} {k : Nat} {q : Nat × va_E} (h : (rW G rb ri ra)[k]? = some q) : k < 7 ∧ q.1 = rb k := by
  match k, h with
  | 0, h => cases h; exact ⟨by omega, rfl⟩
  | 1, h => cases h; exact ⟨by omega, rfl⟩
  | 2, h => cases h; exact ⟨by omega, rfl⟩
  | 3, h => cases h; exact ⟨by omega, rfl⟩
  | 4, h => cases h; exact ⟨by omega, rfl⟩
  | 5, h => cases h; exact ⟨by omega, rfl⟩
  | 6, h => cases h; exact ⟨by omega, rfl⟩
  | k + 7, h => exact absurd (List.getElem?_eq_some_iff.mp h).1 (by simp only [List.length_cons, List.length_nil]; omega)
theorem rW_D {A : Nat → Prop} {G : gT} {rb : Nat → Nat} {ri : Nat → Int32} {ra : Nat → Nat → Int32} (hA : ∀ k, k < 7 → A (rb k)) (hi : ∀ i j, i < 7 → j < 7 → rb i = rb j → i = j) : va_D A (rW G rb ri ra) := ⟨fun i j p q hp hq hpq => by
  obtain ⟨h1, h2⟩ := rW_at hp
  obtain ⟨h3, h4⟩ := rW_at hq
  exact hi i j h1 h3 (by rw [← h2, ← h4]; exact hpq), fun k q hk => by
  obtain ⟨h1, h2⟩ := rW_at hk
  rw [h2]; exact hA k h1⟩
theorem rP_kp {G : gT} {rb : Nat → Nat} {ri : Nat → Int32} {ra : Nat → Nat → Int32} {H H1 : Heap} (h : rP G rb ri ra H) (hk : ∀ k, k < 7 → rb k < H.size → H1[rb k]? = H[rb k]?) : rP G rb ri ra H1 := fun k q hq => by
  obtain ⟨h1, h2⟩ := rW_at hq
  have ha := h k q hq
  exact va_at.kept ha (by rw [h2]; exact hk k h1 (by rw [← h2]; exact ha.lt))
theorem rW_D9 {A : Nat → Prop} {G : gT} {rb : Nat → Nat} {m9 : Nat} {ri : Nat → Int32} {ra : Nat → Nat → Int32} {mf : Nat → Int32} (hA : ∀ k, k < 7 → A (rb k)) (hi : ∀ i j, i < 7 → j < 7 → rb i = rb j → i = j) (hm : A m9) (hne : ∀ k, k < 7 → ¬ rb k = m9) : va_D A (rW G rb ri ra ++ [(m9, eI G 16 mf)]) := by
  have key : ∀ (k : Nat) (q : Nat × va_E), (rW G rb ri ra ++ [(m9, eI G 16 mf)])[k]? = some q → (k < 7 ∧ q.1 = rb k) ∨ (k = 7 ∧ q.1 = m9) := fun k q hk => by
    rcases Nat.lt_or_ge k 7 with c | c
    · rw [List.getElem?_append_left c] at hk
      exact Or.inl (rW_at hk)
    · rw [List.getElem?_append_right c] at hk
      have hl := (List.getElem?_eq_some_iff.mp hk).1
      have hz : k - 7 < 1 := hl
      have e : k = 7 := by omega
      subst e
      cases hk
      exact Or.inr ⟨rfl, rfl⟩
  refine ⟨fun i j p q hp hq hpq => ?_, fun k q hk => ?_⟩
  · rcases key i p hp with ⟨h1, h2⟩ | ⟨h1, h2⟩ <;> rcases key j q hq with ⟨h3, h4⟩ | ⟨h3, h4⟩
    · exact hi i j h1 h3 (by rw [← h2, ← h4]; exact hpq)
    · exact absurd (h2.symm.trans (hpq.trans h4)) (hne i h1)
    · exact absurd (h4.symm.trans (hpq.symm.trans h2)) (hne j h3)
    · omega
  · rcases key k q hk with ⟨h1, h2⟩ | ⟨h1, h2⟩
    · rw [h2]; exact hA k h1
    · rw [h2]; exact hm
theorem rW_P9 {G : gT} {rb : Nat → Nat} {m9 : Nat} {ri : Nat → Int32} {ra : Nat → Nat → Int32} {mf : Nat → Int32} {H : Heap} (h : rP G rb ri ra H) (hm : pt G m9 (eI G 16 mf) H) : va_P (gD G) vC (rW G rb ri ra ++ [(m9, eI G 16 mf)]) H := va_P.app h (fun k q hk => by
  have hl := (List.getElem?_eq_some_iff.mp hk).1
  have hz : k < 1 := hl
  have e : k = 0 := by omega
  subst e
  cases hk
  exact hm)
section CWS
variable {G : gT} {z0 : Nat} {tg tg' : Nat → Nat} {xa n hn : Nat} {L T : Nat → Int32} {o : List Nat} {sa fa ta ha : Nat → Nat} {F U : Nat → Nat → Int32} {aS aB aH : Nat} {rb : Nat → Nat} {ri ri1 : Nat → Int32} {ra ra1 : Nat → Nat → Int32} {m9 : Nat} {mf mf1 : Nat → Int32} {H H1 : Heap}
theorem CWx.cr (h : CWx G z0 tg xa n hn L T o sa fa ta ha F U aS aB aH rb ri ra m9 mf H) : crO G (fun q => 10 ≤ tg q) n hn L T o sa fa ta ha F U aS aB aH H := by
  obtain ⟨-, ⟨h1, h2, h3⟩, ⟨h4, h5⟩, -, h6, h7⟩ := h
  refine ⟨h1.x.mono (fun q hq => ?_), h2.x.mono (fun q hq => ?_), h3.x.mono (fun q hq => ?_), fun i hi => ⟨h4 i hi, ?_, ?_, ?_⟩, fun j hj => ⟨h5 j hj, ?_⟩⟩
  · rcases hq with e | e <;> (show 10 ≤ tg q; omega)
  · rcases hq with e | e <;> (show 10 ≤ tg q; omega)
  · rcases hq with e | e <;> (show 10 ≤ tg q; omega)
  · have := (h6 i hi).1; show 10 ≤ tg _; omega
  · have := (h6 i hi).2.1; show 10 ≤ tg _; omega
  · have := (h6 i hi).2.2; show 10 ≤ tg _; omega
  · have := h7 j hj; show 10 ≤ tg _; omega
/-- the class's world in another heap: the reckoning's rows may be others -/
theorem CWx.re (h : CWx G z0 tg xa n hn L T o sa fa ta ha F U aS aB aH rb ri ra m9 mf H) (hk : ∀ q, q < H.size → tgC tg q → ¬ (2 ≤ tg q ∧ tg q ≤ 9) → H1[q]? = H[q]?) (hr : rP G rb ri1 ra1 H1) (hm : pt G m9 (eI G 16 mf1) H1) (ht : ∀ q, q < H.size → tg' q = tg q) : CWx G z0 tg' xa n hn L T o sa fa ta ha F U aS aB aH rb ri1 ra1 m9 mf1 H1 := by
  obtain ⟨⟨h1, h2, h3⟩, ⟨h4, h5, h6⟩, ⟨h7, h8⟩, ⟨h9, h10, h11⟩, h12, h13⟩ := h
  have mvS : ∀ (k : Nat), 10 ≤ k → k ≤ 14 → ∀ (a m : Nat) (f : Nat → Nat), alZ G z0 (tgS tg k) a f m H → alZ G z0 (tgS tg' k) a f m H1 := fun k hk1 hk2 a m f hz =>
    hz.mv (fun q hq hx => hk q hq (Or.inl (by rcases hx with e | e <;> omega)) (by rcases hx with e | e <;> omega)) (fun q hq hx => by show tg' q = k ∨ tg' q = k + 1; rw [ht q hq]; exact hx) (fun _ _ => rfl)
  refine ⟨⟨ptk h1 (fun hl9 => hk _ hl9 (Or.inl (by omega)) (by omega)), hr, hm⟩, ⟨mvS 10 (by omega) (by omega) _ _ _ h4, mvS 12 (by omega) (by omega) _ _ _ h5, mvS 14 (by omega) (by omega) _ _ _ h6⟩, ⟨fun i hi => (h7 i hi).kp (fun q hq e => hk q hq ?_ ?_), fun j hj => ptk (h8 j hj) (fun hl9 => hk _ hl9 (Or.inr (by have := h13 j hj; omega)) (by have := h13 j hj; omega))⟩, ⟨by rw [ht _ (ptl h1)]; exact h9, fun k hk7 => ?_, by rw [ht _ (ptl h3)]; exact h11⟩, fun i hi => ?_, fun j hj => by rw [ht _ (ptl (h8 j hj))]; exact h13 j hj⟩
  · obtain ⟨a1, a2, a3⟩ := h12 i hi
    rcases e with e | e | e <;> (rw [e]; exact Or.inr (by omega))
  · obtain ⟨a1, a2, a3⟩ := h12 i hi
    rcases e with e | e | e <;> (rw [e]; omega)
  · have hl : rb k < H.size := by
      match k, hk7 with
      | 0, _ => exact ptl (h2 0 _ rfl)
      | 1, _ => exact ptl (h2 1 _ rfl)
      | 2, _ => exact ptl (h2 2 _ rfl)
      | 3, _ => exact ptl (h2 3 _ rfl)
      | 4, _ => exact ptl (h2 4 _ rfl)
      | 5, _ => exact ptl (h2 5 _ rfl)
      | 6, _ => exact ptl (h2 6 _ rfl)
    rw [ht _ hl]; exact h10 k hk7
  · obtain ⟨a1, a2, a3⟩ := h12 i hi
    obtain ⟨b1, b2, b3, -⟩ := h7 i hi
    rw [ht _ (ptl b1), ht _ (ptl b2), ht _ (ptl b3)]
    exact ⟨a1, a2, a3⟩
theorem CWx.mv (h : CWx G z0 tg xa n hn L T o sa fa ta ha F U aS aB aH rb ri ra m9 mf H) (hk : ∀ q, q < H.size → tgC tg q → H1[q]? = H[q]?) (ht : ∀ q, q < H.size → tg' q = tg q) : CWx G z0 tg' xa n hn L T o sa fa ta ha F U aS aB aH rb ri ra m9 mf H1 := by
  obtain ⟨⟨-, h2, h3⟩, -, -, ⟨-, h10, h11⟩, -⟩ := id h
  exact h.re (fun q hq hc _ => hk q hq hc) (rP_kp h2 (fun k hk7 hl => hk _ hl (Or.inl (by have := h10 k hk7; omega)))) (ptk h3 (fun hl9 => hk _ hl9 (Or.inl (by omega)))) ht
theorem CW.mv (h : CW G z0 tg xa n hn L T o H) (hk : ∀ q, q < H.size → tgC tg q → H1[q]? = H[q]?) (ht : ∀ q, q < H.size → tg' q = tg q) : CW G z0 tg' xa n hn L T o H1 := by
  obtain ⟨sa, fa, ta, ha, F, U, aS, aB, aH, rb, ri, ra, m9, mf, hx⟩ := h
  exact ⟨sa, fa, ta, ha, F, U, aS, aB, aH, rb, ri, ra, m9, mf, hx.mv hk ht⟩
theorem CWx.rbi (h : CWx G z0 tg xa n hn L T o sa fa ta ha F U aS aB aH rb ri ra m9 mf H) : ∀ i j, i < 7 → j < 7 → rb i = rb j → i = j := fun i j hi hj e => by
  have h10 := h.2.2.2.1.2.1
  have h1 := h10 i hi
  have h2 := h10 j hj
  rw [e] at h1
  omega
/-- the class's state behind a call -/
def CP (G : gT) (z0 : Nat) (tg : Nat → Nat) (xa : Nat) (H0 : Heap) (n hn : Nat) (L T : Nat → Int32) (o : List Nat) (H1 : Heap) : Prop :=
  ∃ tg' : Nat → Nat, (∀ q, q < H0.size → tg' q = tg q) ∧ (∀ q, H0.size ≤ q → tg' q ≠ 0 → tgC tg' q ∧ q < H1.size) ∧ CW G z0 tg' xa n hn L T o H1
theorem CP.of (h : CW G z0 tg xa n hn L T o H1) (ht : ∀ q, tg q ≠ 0 → q < H.size) : CP G z0 tg xa H n hn L T o H1 := ⟨tg, fun _ _ => rfl, fun q hq h0 => by have := ht q h0; omega, h⟩
theorem CP_same (h : CWx G z0 tg xa n hn L T o sa fa ta ha F U aS aB aH rb ri ra m9 mf H) (ht : ∀ q, tg q ≠ 0 → q < H.size) (hk : ∀ q, q < H.size → tgC tg q → H1[q]? = H[q]?) : CP G z0 tg xa H n hn L T o H1 :=
  CP.of ⟨sa, fa, ta, ha, F, U, aS, aB, aH, rb, ri, ra, m9, mf, h.mv hk (fun _ _ => rfl)⟩ ht
theorem CP_reck (h : CWx G z0 tg xa n hn L T o sa fa ta ha F U aS aB aH rb ri ra m9 mf H) (ht : ∀ q, tg q ≠ 0 → q < H.size) (hf : fr (fun q => 2 ≤ tg q ∧ tg q ≤ 8) H H1) (hr : rP G rb ri1 ra1 H1) : CP G z0 tg xa H n hn L T o H1 :=
  CP.of ⟨sa, fa, ta, ha, F, U, aS, aB, aH, rb, ri1, ra1, m9, mf, h.re (fun q hq _ h9 => hf.2 q hq (fun z => h9 ⟨z.1, by have := z.2; omega⟩)) hr (ptk h.1.2.2 (fun hl9 => hf.2 _ hl9 (fun z => by have := h.2.2.2.1.2.2; omega))) (fun _ _ => rfl)⟩ ht
end CWS
section VZW
variable {G : gT} {zA : Nat × Nat} {l : Launch} {y : MethodName} {ws : List Cond} {rm : Room} {as : List Value} {H0 : Heap} {A B : Nat → Prop} {mc ms : Nat} {es : List String} {k : Nat}
theorem VzI.wk {Φ Φ' : Int32 → Heap → Prop} (h : VzI G zA l y ws rm as H0 A mc ms es k Φ) (hAB : ∀ q, A q → B q) (hΦ : k = 0 → ∀ r H1, fr A H0 H1 → Φ r H1 → Φ' r H1) : VzI G zA l y ws rm as H0 B mc ms es k Φ' := by
  intro p e ha hc hk s m args below hf happ hP hK
  obtain ⟨h0, hH, hKK, hZ⟩ := hP
  obtain ⟨n, o, h1, h2, h3, h4⟩ := h p e ha hc hk s m args below hf happ ⟨h0, hH, hKK, hZ.narrow hAB⟩ hK
  refine ⟨n, o, h1, h2, h3, ?_⟩
  rcases h4 with ⟨⟨r, g1, g2, g3, g4⟩, L, g5, g6⟩ | ⟨q, g1, E, ce, L, g2, g3, g4, g5, g6, g7, g8⟩
  · exact Or.inl ⟨⟨r, g1, ⟨g2.1, fun q hq hn => g2.2 q hq (fun z => hn (hAB q z))⟩, g3, hΦ g3 r _ g2 g4⟩, L, g5, fun q hq => hAB _ (g6 q hq)⟩
  · exact Or.inr ⟨q, g1, E, ce, L, g2, g3, g4, g5, g6, g7, fun z hz => hAB _ (g8 z hz)⟩
theorem VzD.wk {Φ Φ' : UInt64 → Heap → Prop} (h : VzD G zA l y ws rm as H0 A mc ms es k Φ) (hAB : ∀ q, A q → B q) (hΦ : k = 0 → ∀ r H1, fr A H0 H1 → Φ r H1 → Φ' r H1) : VzD G zA l y ws rm as H0 B mc ms es k Φ' := by
  intro p e ha hc hk s m args below hf happ hP hK
  obtain ⟨h0, hH, hKK, hZ⟩ := hP
  obtain ⟨n, o, h1, h2, h3, h4⟩ := h p e ha hc hk s m args below hf happ ⟨h0, hH, hKK, hZ.narrow hAB⟩ hK
  refine ⟨n, o, h1, h2, h3, ?_⟩
  rcases h4 with ⟨⟨r, g1, g2, g3, g4⟩, L, g5, g6⟩ | ⟨q, g1, E, ce, L, g2, g3, g4, g5, g6, g7, g8⟩
  · exact Or.inl ⟨⟨r, g1, ⟨g2.1, fun q hq hn => g2.2 q hq (fun z => hn (hAB q z))⟩, g3, hΦ g3 r _ g2 g4⟩, L, g5, fun q hq => hAB _ (g6 q hq)⟩
  · exact Or.inr ⟨q, g1, E, ce, L, g2, g3, g4, g5, g6, g7, fun z hz => hAB _ (g8 z hz)⟩
end VZW
