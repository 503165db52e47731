-- ===== lists that grow: one contract for add(e), one for add(i, e) =====
theorem wkI {l : Launch} {y : MethodName} {ws : List Cond} {rm : Room} {Pc : Array Value → State → Prop} {mc ms : Nat} {free : Addr → Prop} {Φ Φ' : Int32 → Heap → Prop} (h : Met l y ws rm Pc (QH (oI Φ)) mc ms free) (hΦ : ∀ r H, Φ r H → Φ' r H) : Met l y ws rm Pc (QH (oI Φ')) mc ms free := by
  intro p e ha hc hk s m args below hf happ hP hK
  obtain ⟨n, o, h1, h2, h3, ⟨r, h4, h5⟩, h6⟩ := h p e ha hc hk s m args below hf happ hP hK
  exact ⟨n, o, h1, h2, h3, ⟨r, h4, hΦ r _ h5⟩, h6⟩
theorem wkV {l : Launch} {y : MethodName} {ws : List Cond} {rm : Room} {Pc : Array Value → State → Prop} {mc ms : Nat} {free : Addr → Prop} {Φ Φ' : Heap → Prop} (h : Met l y ws rm Pc (QH (oV Φ)) mc ms free) (hΦ : ∀ H, Φ H → Φ' H) : Met l y ws rm Pc (QH (oV Φ')) mc ms free := by
  intro p e ha hc hk s m args below hf happ hP hK
  obtain ⟨n, o, h1, h2, h3, ⟨h4, h5⟩, h6⟩ := h p e ha hc hk s m args below hf happ hP hK
  exact ⟨n, o, h1, h2, h3, ⟨h4, hΦ _ h5⟩, h6⟩
/-- a list whose cells lie in X: empty as it was made (z the row that empty ones share), or with a row of its own -/
def alZ (G : gT) (z : Nat) (X : Nat → Prop) (a : Nat) (f : Nat → Nat) (n : Nat) (H : Heap) : Prop :=
  ∃ (mc : Int32) (ea cap : Nat) (g : Nat → Option Nat), pt G a (alO mc ea n) H ∧ X a ∧ ((n = 0 ∧ ea = z) ∨ (0 < n ∧ n ≤ cap ∧ capOK cap ∧ pt G ea (eQ G cap g) H ∧ X ea ∧ (¬ ea = z ∧ ¬ a = ea) ∧ ∀ i, i < n → g i = some (f i)))
theorem capOK_100 {n : Nat} (h : capOK n) : n ≤ 100 := by unfold capOK at h; omega
theorem alZ.x {G : gT} {z a n : Nat} {X : Nat → Prop} {f : Nat → Nat} {H : Heap} (h : alZ G z X a f n H) : alX G X a f n H := by
  obtain ⟨mc, ea, cap, g, h1, h2, h3⟩ := h
  rcases h3 with ⟨h3, h4⟩ | ⟨h3, h4, h5, h6, h7, h8, h9⟩
  · subst h3
    exact ⟨mc, ea, 0, g, ⟨h1, Nat.le_refl 0, by omega, fun z => absurd z (Nat.lt_irrefl 0), fun i hi => absurd hi (Nat.not_lt_zero i)⟩, h2, fun z => absurd z (Nat.lt_irrefl 0)⟩
  · exact ⟨mc, ea, cap, g, ⟨h1, h4, capOK_100 h5, fun _ => h6, h9⟩, h2, fun _ => h7⟩
theorem alX.mono {G : gT} {X Y : Nat → Prop} {a n : Nat} {f : Nat → Nat} {H : Heap} (h : alX G X a f n H) (hXY : ∀ q, X q → Y q) : alX G Y a f n H := by
  obtain ⟨mc, ea, cap, g, h1, h2, h3⟩ := h
  exact ⟨mc, ea, cap, g, h1, hXY _ h2, fun z => hXY _ (h3 z)⟩
/-- the list again in another heap, in another set, under other names of what it holds -/
theorem alZ.mv {G : gT} {z a n : Nat} {X Y : Nat → Prop} {f f' : Nat → Nat} {H H1 : Heap} (h : alZ G z X a f n H) (hk : ∀ q, q < H.size → X q → H1[q]? = H[q]?) (hXY : ∀ q, q < H.size → X q → Y q) (hf : ∀ i, i < n → f' i = f i) : alZ G z Y a f' n H1 := by
  obtain ⟨mc, ea, cap, g, h1, h2, h3⟩ := h
  refine ⟨mc, ea, cap, g, va_at.kept h1 (hk a (va_at.lt h1) h2), hXY a (va_at.lt h1) h2, ?_⟩
  rcases h3 with h3 | ⟨h3, h4, h5, h6, h7, h8, h9⟩
  · exact Or.inl h3
  · exact Or.inr ⟨h3, h4, h5, va_at.kept h6 (hk ea (va_at.lt h6) h7), hXY ea (va_at.lt h6) h7, h8, fun i hi => by rw [h9 i hi, hf i hi]⟩
theorem D_two {A : Nat → Prop} {a b : Nat} {e e' : va_E} (ha : A a) (hb : A b) (h : ¬ a = b) : va_D A [(a, e), (b, e')] := ⟨fun i j p q hi hj hpq => by
  match i, j, hi, hj with
  | 0, 0, _, _ => rfl
  | 1, 1, _, _ => rfl
  | 0, 1, hi, hj => cases hi; cases hj; exact absurd hpq h
  | 1, 0, hi, hj => cases hi; cases hj; exact absurd hpq.symm h, fun k q hk => by
  match k, hk with
  | 0, hk => cases hk; exact ha
  | 1, hk => cases hk; exact hb⟩
theorem P_two {D : va_G} {cl : List vw_C} {x y : Nat × va_E} {H : Heap} (h1 : va_at D cl x H) (h2 : va_at D cl y H) : va_P D cl [x, y] H := fun k q hk => by
  match k, hk with
  | 0, hk => cases hk; exact h1
  | 1, hk => cases hk; exact h2
theorem alZ_mk {G : gT} {z a n e1 cap1 : Nat} {A : Nat → Prop} {f : Nat → Nat} {H : Heap} {mc : Int32} {g1 : Nat → Option Nat} (h0 : 0 < n) (h1 : n ≤ cap1 ∧ capOK cap1) (hP : va_P (gD G) vC [(a, alO mc e1 n), (e1, eQ G cap1 g1)] H) (hD : va_D A [(a, alO mc e1 n), (e1, eQ G cap1 g1)]) (hz : ¬ A z) (hg : ∀ i, i < n → g1 i = some (f i)) : alZ G z A a f n H :=
  ⟨mc, e1, cap1, g1, hP 0 _ rfl, hD.2 0 _ rfl, Or.inr ⟨h0, h1.1, h1.2, hP 1 _ rfl, hD.2 1 _ rfl, ⟨fun e => hz (by rw [← e]; exact hD.2 1 _ rfl), fun e => absurd (hD.1 0 1 _ _ rfl rfl e) (by decide)⟩, hg⟩⟩
section ADDZ
variable {l : Launch} {G : gT} {A X : Nat → Prop} {H0 : Heap} {zA : Nat × Nat} {a n ci v : Nat} {f : Nat → Nat} {fs : List Value}
theorem c_addZ (h : alZ G zA.1 X a f n H0) (hXA : ∀ q, X q → A q) (hA : ∀ q, H0.size ≤ q → A q) (hz : ¬ A zA.1) (hci : ci = 0 ∨ ci = 2) (hn : n < 22) (hel : ∀ k, k < n → (∃ fs, pt G (f k) (.inr (ci, fs)) H0) ∧ ¬ A (f k)) (hv : pt G v (.inr (ci, fs)) H0) (hvA : ¬ A v) : WzI G zA l yJx4a65c_add_9ea2d wsJx4a65c_add_9ea2d rmJx4a65c_add_9ea2d [.ref a, .ref v] H0 A 1 22 (fun _ H1 => alZ G zA.1 A a (fun k => if k < n then f k else v) (n + 1) H1) := by
  obtain ⟨mc, ea, cap, g, h1, h2, h3⟩ := h
  rcases h3 with ⟨h3, h4⟩ | ⟨h3, h4, h5, h6, h7, h8, h9⟩
  · subst h3
    subst h4
    refine wkI (c_addA (x_one h1) (D_one (hXA _ h2)) hA hci hv hvA) (fun r H1 q => ⟨q.1, ?_⟩)
    obtain ⟨-, e1, cap1, g1, q1, q2, q3, -, q5⟩ := q
    exact alZ_mk (by omega) q1 q2 q3 hz (fun i hi => by rw [show i = 0 by omega]; exact q5)
  · have hel' : ∀ k y, k < n → g k = some y → (∃ fs, pt G y (.inr (ci, fs)) H0) ∧ ¬ A y := fun k y hk hy => by
      have e : f k = y := Option.some.inj ((h9 k hk).symm.trans hy)
      rw [← e]; exact hel k hk
    have fin : ∀ (r : Int32) (H1 : Heap), (fr A H0 H1 ∧ ∃ (e1 cap1 : Nat) (g1 : Nat → Option Nat), (n + 1 ≤ cap1 ∧ capOK cap1) ∧ va_P (gD G) vC [(a, alO (mc + nI 1) e1 (n + 1)), (e1, eQ G cap1 g1)] H1 ∧ va_D A [(a, alO (mc + nI 1) e1 (n + 1)), (e1, eQ G cap1 g1)] ∧ (∀ k, k < n → g1 k = g k) ∧ g1 n = some v) → (fr A H0 H1 ∧ alZ G zA.1 A a (fun k => if k < n then f k else v) (n + 1) H1) := fun r H1 q => by
      obtain ⟨q0, e1, cap1, g1, q1, q2, q3, q4, q5⟩ := q
      refine ⟨q0, alZ_mk (by omega) q1 q2 q3 hz (fun i hi => ?_)⟩
      by_cases c : i < n
      · rw [q4 i c, h9 i c, if_pos c]
      · rw [show i = n by omega, q5, if_neg (Nat.lt_irrefl n)]
    rcases Nat.lt_or_ge n cap with c | c
    · exact wkI (c_addR (P_two h1 h6) (D_two (hXA _ h2) (hXA _ h7) h8.2) hA hci c h5 hv hvA) fin
    · have e : n = cap := by omega
      subst e
      exact wkI (c_addB (P_two h6 h1) (D_two (hXA _ h7) (hXA _ h2) (fun z => h8.2 z.symm)) hA hci hel' (by unfold capOK at h5; omega) h8.1 hv hvA) fin
theorem c_addIZ {i : Nat} (h : alZ G zA.1 X a f n H0) (hXA : ∀ q, X q → A q) (hA : ∀ q, H0.size ≤ q → A q) (hz : ¬ A zA.1) (hci : ci = 0 ∨ ci = 2) (hn : n < 22) (hel : ∀ k, k < n → (∃ fs, pt G (f k) (.inr (ci, fs)) H0) ∧ ¬ A (f k)) (hv : pt G v (.inr (ci, fs)) H0) (hvA : ¬ A v) (hin : i ≤ n) : WzV G zA l yJx4a65c_add_7a177 wsJx4a65c_add_7a177 rmJx4a65c_add_7a177 [.ref a, .int (nI i), .ref v] H0 A 1 22 (fun H1 => alZ G zA.1 A a (fun k => if k < i then f k else if k = i then v else f (k - 1)) (n + 1) H1) := by
  obtain ⟨mc, ea, cap, g, h1, h2, h3⟩ := h
  rcases h3 with ⟨h3, h4⟩ | ⟨h3, h4, h5, h6, h7, h8, h9⟩
  · subst h3
    subst h4
    have hi0 : i = 0 := by omega
    subst hi0
    refine wkV (c_addIA (x_one h1) (D_one (hXA _ h2)) hA hci hv hvA hin) (fun H1 q => ⟨q.1, ?_⟩)
    obtain ⟨-, e1, cap1, g1, q1, q2, q3, q5⟩ := q
    exact alZ_mk (by omega) q1 q2 q3 hz (fun k hk => by
      rw [q5 k hk, show k = 0 by omega]
      unfold insF
      rw [if_neg (by omega), if_pos rfl, if_neg (by omega), if_pos rfl])
  · have hel' : ∀ k y, k < n → g k = some y → (∃ fs, pt G y (.inr (ci, fs)) H0) ∧ ¬ A y := fun k y hk hy => by
      have e : f k = y := Option.some.inj ((h9 k hk).symm.trans hy)
      rw [← e]; exact hel k hk
    have fin : ∀ (H1 : Heap), (fr A H0 H1 ∧ ∃ (e1 cap1 : Nat) (g1 : Nat → Option Nat), (n + 1 ≤ cap1 ∧ capOK cap1) ∧ va_P (gD G) vC [(a, alO (mc + nI 1) e1 (n + 1)), (e1, eQ G cap1 g1)] H1 ∧ va_D A [(a, alO (mc + nI 1) e1 (n + 1)), (e1, eQ G cap1 g1)] ∧ ∀ k, k < n + 1 → g1 k = insF g i v k) → (fr A H0 H1 ∧ alZ G zA.1 A a (fun k => if k < i then f k else if k = i then v else f (k - 1)) (n + 1) H1) := fun H1 q => by
      obtain ⟨q0, e1, cap1, g1, q1, q2, q3, q5⟩ := q
      refine ⟨q0, alZ_mk (by omega) q1 q2 q3 hz (fun k hk => ?_)⟩
      rw [q5 k hk]
      unfold insF
      by_cases c : k < i
      · rw [if_pos c, if_pos c, h9 k (by omega)]
      · rw [if_neg c, if_neg c]
        by_cases c2 : k = i
        · rw [if_pos c2, if_pos c2]
        · rw [if_neg c2, if_neg c2, h9 (k - 1) (by omega)]
    rcases Nat.lt_or_ge n cap with c | c
    · exact wkV (c_addIR (P_two h1 h6) (D_two (hXA _ h2) (hXA _ h7) h8.2) hA hci c h5 hel' hv hvA hin) fin
    · have e : n = cap := by omega
      subst e
      exact wkV (c_addIB (P_two h6 h1) (D_two (hXA _ h7) (hXA _ h2) (fun z => h8.2 z.symm)) hA hci hel' (by unfold capOK at h5; omega) h8.1 hv hvA hin) fin
end ADDZ
theorem va_S.wk {A B : Nat → Prop} {H0 H : Heap} {locs : List Loc} (h : va_S A H0 H locs) (hAB : ∀ q, A q → B q) : va_S B H0 H locs := ⟨h.1, fun q h1 h2 => h.2.1 q h1 (fun z => h2 (hAB q z)), fun q hq => hAB _ (h.2.2 q hq)⟩
-- ===== all stations' cells as one world =====
/-- the cells of the first n stations -/
def stW (L : Nat → Int32) (sa fa ta : Nat → Nat) (n : Nat) : va_W := (List.range n).map (fun i => (sa i, stO L i (fa i) (ta i)))
theorem stW_get {L : Nat → Int32} {sa fa ta : Nat → Nat} {n k : Nat} (hk : k < n) : (stW L sa fa ta n)[k]? = some (sa k, stO L k (fa k) (ta k)) := by
  unfold stW
  rw [List.getElem?_map, List.getElem?_range hk]; rfl
theorem stW_len {L : Nat → Int32} {sa fa ta : Nat → Nat} {n : Nat} : (stW L sa fa ta n).length = n := by
  unfold stW; rw [List.length_map, List.length_range]
theorem stO_cg {L L' : Nat → Int32} {i f u : Nat} (h : ∀ w, w < 5 → gL L' i w = gL L i w) : stO L' i f u = stO L i f u := by
  unfold stO
  rw [h 0 (by omega), h 1 (by omega), h 2 (by omega), h 3 (by omega), h 4 (by omega)]
theorem stW_set {L L' : Nat → Int32} {sa fa ta : Nat → Nat} {n k : Nat} (hk : k < n) (h : ∀ i w, i ≠ k → w < 5 → gL L' i w = gL L i w) : (stW L sa fa ta n).set k (sa k, stO L' k (fa k) (ta k)) = stW L' sa fa ta n := by
  apply List.ext_getElem?
  intro i
  rcases Nat.lt_or_ge i n with e | e
  · rw [stW_get e]
    by_cases c : i = k
    · rw [c, List.getElem?_set_self (by rw [stW_len]; exact hk)]
    · rw [List.getElem?_set_ne (fun z => c z.symm), stW_get e, stO_cg (fun w hw => h i w c hw)]
  · rw [List.getElem?_eq_none (by rw [List.length_set, stW_len]; exact e), List.getElem?_eq_none (by rw [stW_len]; exact e)]
theorem stW_P {G : gT} {L : Nat → Int32} {sa fa ta : Nat → Nat} {n : Nat} {H : Heap} (h : ∀ i, i < n → pt G (sa i) (stO L i (fa i) (ta i)) H) : va_P (gD G) vC (stW L sa fa ta n) H := fun k q hk => by
  have hkn : k < n := by have := (List.getElem?_eq_some_iff.mp hk).1; rw [stW_len] at this; exact this
  rw [stW_get hkn] at hk
  cases hk
  exact h k hkn
theorem stW_D {A : Nat → Prop} {L : Nat → Int32} {sa fa ta : Nat → Nat} {n : Nat} (hA : ∀ i, i < n → A (sa i)) (hi : ∀ i j, i < n → j < n → sa i = sa j → i = j) : va_D A (stW L sa fa ta n) := by
  have key : ∀ (k : Nat) (q : Nat × va_E), (stW L sa fa ta n)[k]? = some q → k < n ∧ q.1 = sa k := fun k q hk => by
    have hkn : k < n := by have := (List.getElem?_eq_some_iff.mp hk).1; rw [stW_len] at this; exact this
    rw [stW_get hkn] at hk
    cases hk
    exact ⟨hkn, rfl⟩
  refine ⟨fun i j p q hp hq hpq => ?_, fun k q hk => ?_⟩
  · obtain ⟨h1, h2⟩ := key i p hp
    obtain ⟨h3, h4⟩ := key j q hq
    exact hi i j h1 h3 (by rw [← h2, ← h4]; exact hpq)
  · obtain ⟨h1, h2⟩ := key k q hk
    rw [h2]; exact hA k h1
