-- ===== the stations in the order of their places; what is reckoned of a halo =====
/-- o: the stations below n, by ascending places -/
def IsOrd (P : Nat → Int32) (n : Nat) (o : List Nat) : Prop := o.Pairwise (fun a b => P a < P b) ∧ (∀ i, i ∈ o ↔ i < n) ∧ o.length = n
theorem nx_spec (P : Nat → Int32) (p : Int32) : ∀ k, match nx P p k with
    | none => ∀ i, i < k → ¬ p < P i
    | some j => j < k ∧ p < P j ∧ ∀ i, i < k → p < P i → P j ≤ P i := by
  intro k
  induction k with
  | zero => exact fun i h => absurd h (Nat.not_lt_zero _)
  | succ k ih =>
    cases hb : nx P p k with
    | none =>
      rw [hb] at ih
      dsimp only at ih
      by_cases c : p < P k
      · have e : nx P p (k + 1) = some k := by simp only [nx, hb]; rw [if_pos c]
        rw [e]
        refine ⟨Nat.lt_succ_self k, c, fun i hi hp => ?_⟩
        rcases Nat.lt_or_ge i k with h | h
        · exact absurd hp (ih i h)
        · have : i = k := by omega
          subst this; exact Int32.le_refl _
      · have e : nx P p (k + 1) = none := by simp only [nx, hb]; rw [if_neg c]
        rw [e]
        intro i hi
        rcases Nat.lt_or_ge i k with h | h
        · exact ih i h
        · have : i = k := by omega
          subst this; exact c
    | some j =>
      rw [hb] at ih
      dsimp only at ih
      obtain ⟨h1, h2, h3⟩ := ih
      by_cases c : p < P k ∧ P k < P j
      · have e : nx P p (k + 1) = some k := by simp only [nx, hb]; rw [if_pos c]
        rw [e]
        refine ⟨Nat.lt_succ_self k, c.1, fun i hi hp => ?_⟩
        rcases Nat.lt_or_ge i k with h | h
        · exact Int32.le_trans (Int32.le_of_lt c.2) (h3 i h hp)
        · have : i = k := by omega
          subst this; exact Int32.le_refl _
      · have e : nx P p (k + 1) = some j := by simp only [nx, hb]; rw [if_neg c]
        rw [e]
        refine ⟨by omega, h2, fun i hi hp => ?_⟩
        rcases Nat.lt_or_ge i k with h | h
        · exact h3 i h hp
        · have : i = k := by omega
          subst this
          exact Int32.not_lt.mp (fun z => c ⟨hp, z⟩)
/-- the next one beyond p is the first of o's rest, if the ones ahead lie not beyond p, and the rest does -/
theorem nx_ord {P : Nat → Int32} {n : Nat} {o : List Nat} (h : IsOrd P n o) (p : Int32) (x : Nat) (h1 : ∀ (k i : Nat), k < x → o[k]? = some i → P i ≤ p) (h2 : ∀ i, o[x]? = some i → p < P i) : nx P p n = o[x]? := by
  obtain ⟨hp, hm, hl⟩ := h
  have hs := nx_spec P p n
  have asc : ∀ (a b i j : Nat), a < b → o[a]? = some i → o[b]? = some j → P i < P j := by
    intro a b i j hab ha hb
    rw [List.pairwise_iff_getElem] at hp
    obtain ⟨ha1, ha2⟩ := List.getElem?_eq_some_iff.mp ha
    obtain ⟨hb1, hb2⟩ := List.getElem?_eq_some_iff.mp hb
    rw [← ha2, ← hb2]
    exact hp a b ha1 hb1 hab
  cases hx : o[x]? with
  | none =>
    cases hb : nx P p n with
    | none => rfl
    | some j =>
      rw [hb] at hs
      obtain ⟨g1, g2, -⟩ := hs
      obtain ⟨k, hk⟩ := List.getElem?_of_mem ((hm j).mpr g1)
      have hkx : k < x := by
        have q1 := (List.getElem?_eq_some_iff.mp hk).1
        have q2 : o.length ≤ x := List.getElem?_eq_none_iff.mp hx
        omega
      exact absurd (h1 k j hkx hk) (Int32.not_le.mpr g2)
  | some i =>
    have hi : i < n := (hm i).mp (List.mem_of_getElem? hx)
    have hpi := h2 i hx
    cases hb : nx P p n with
    | none => rw [hb] at hs; exact absurd hpi (hs i hi)
    | some j =>
      rw [hb] at hs
      obtain ⟨g1, g2, g3⟩ := hs
      obtain ⟨k, hk⟩ := List.getElem?_of_mem ((hm j).mpr g1)
      rcases Nat.lt_trichotomy k x with e | e | e
      · exact absurd (h1 k j e hk) (Int32.not_le.mpr g2)
      · subst e; rw [hk] at hx; cases hx; rfl
      · have q1 := asc x k i j e hx hk
        exact absurd (g3 i hi hpi) (Int32.not_le.mpr q1)
theorem IsOrd.asc {P : Nat → Int32} {n : Nat} {o : List Nat} (h : IsOrd P n o) {a b i j : Nat} (hab : a < b) (ha : o[a]? = some i) (hb : o[b]? = some j) : P i < P j := by
  have hp := h.1
  rw [List.pairwise_iff_getElem] at hp
  obtain ⟨ha1, ha2⟩ := List.getElem?_eq_some_iff.mp ha
  obtain ⟨hb1, hb2⟩ := List.getElem?_eq_some_iff.mp hb
  rw [← ha2, ← hb2]
  exact hp a b ha1 hb1 hab
theorem IsOrd.lt {P : Nat → Int32} {n : Nat} {o : List Nat} (h : IsOrd P n o) {a i : Nat} (ha : o[a]? = some i) : i < n := (h.2.1 i).mp (List.mem_of_getElem? ha)
theorem nx_first {P : Nat → Int32} {n : Nat} {o : List Nat} (h : IsOrd P n o) (h0 : ∀ i, i < n → 0 ≤ (P i).toInt) : nx P (-1) n = o[0]? :=
  nx_ord h (-1) 0 (fun k i hk => absurd hk (Nat.not_lt_zero _)) (fun i hi => Int32.lt_iff_toInt_lt.mpr (by
    have := h0 i (h.lt hi)
    show (-1 : Int) < _
    omega))
theorem nx_next {P : Nat → Int32} {n : Nat} {o : List Nat} (h : IsOrd P n o) {x s : Nat} (hs : o[x]? = some s) : nx P (P s) n = o[x + 1]? :=
  nx_ord h (P s) (x + 1) (fun k i hk hi => by
    rcases Nat.lt_or_ge k x with e | e
    · exact Int32.le_of_lt (h.asc e hi hs)
    · have : k = x := by omega
      subst this; rw [hi] at hs; cases hs; exact Int32.le_refl _) (fun i hi => h.asc (Nat.lt_succ_self x) hs hi)
/-- the stations that see halo h, by ascending places -/
def sqL (L T : Nat → Int32) (o : List Nat) (h : Nat) : List Nat := o.filter (fun s => see L T h s)
/-- those of the first x of o -/
def sqT (L T : Nat → Int32) (o : List Nat) (h x : Nat) : List Nat := (o.take x).filter (fun s => see L T h s)
abbrev sqM (L T : Nat → Int32) (o : List Nat) (h : Nat) : Nat := (sqL L T o h).length
abbrev sq (L T : Nat → Int32) (o : List Nat) (h k : Nat) : Nat := (sqL L T o h).getD k 0
abbrev rr (L T : Nat → Int32) (o : List Nat) (h k : Nat) : Int32 := rdg L T h (sq L T o h k)
theorem sqT_all (L T : Nat → Int32) (o : List Nat) (h : Nat) {x : Nat} (hx : o.length ≤ x) : sqT L T o h x = sqL L T o h := by
  unfold sqT sqL; rw [List.take_of_length_le hx]
theorem sqT_succ (L T : Nat → Int32) (o : List Nat) (h : Nat) {x s : Nat} (hs : o[x]? = some s) : sqT L T o h (x + 1) = sqT L T o h x ++ (if see L T h s = true then [s] else []) := by
  unfold sqT
  rw [List.take_add_one, hs, List.filter_append]
  congr 1
  by_cases c : see L T h s = true
  · rw [if_pos c]; simp [c]
  · rw [if_neg c]; simp [c]
theorem sqT_len (L T : Nat → Int32) (o : List Nat) (h x : Nat) : (sqT L T o h x).length ≤ x := by
  unfold sqT
  exact Nat.le_trans (List.length_filter_le _ _) (by rw [List.length_take]; exact Nat.min_le_left _ _)
theorem sqM_le {L T : Nat → Int32} {P : Nat → Int32} {n h : Nat} {o : List Nat} (ho : IsOrd P n o) : sqM L T o h ≤ n := by
  have := List.length_filter_le (fun s => see L T h s) o
  have h2 := ho.2.2
  unfold sqM sqL
  omega
theorem sq_mem {L T : Nat → Int32} {o : List Nat} {h k : Nat} (hk : k < sqM L T o h) : sq L T o h k ∈ sqL L T o h := by
  unfold sq
  rw [List.getD_eq_getElem?_getD, List.getElem?_eq_getElem hk]
  exact List.getElem_mem hk
theorem sq_lt {L T : Nat → Int32} {P : Nat → Int32} {n h k : Nat} {o : List Nat} (ho : IsOrd P n o) (hk : k < sqM L T o h) : sq L T o h k < n :=
  (ho.2.1 _).mp (List.mem_filter.mp (sq_mem hk)).1
theorem sq_see {L T : Nat → Int32} {h k : Nat} {o : List Nat} (hk : k < sqM L T o h) : see L T h (sq L T o h k) = true :=
  (List.mem_filter.mp (sq_mem hk)).2
theorem sq_asc {L T : Nat → Int32} {P : Nat → Int32} {n h a b : Nat} {o : List Nat} (ho : IsOrd P n o) (hab : a < b) (hb : b < sqM L T o h) : P (sq L T o h a) < P (sq L T o h b) := by
  have hp : (sqL L T o h).Pairwise (fun a b => P a < P b) := ho.1.filter _
  have hb2 : b < (sqL L T o h).length := hb
  rw [List.pairwise_iff_getElem] at hp
  have := hp a b (by omega) hb2 hab
  unfold sq
  rw [List.getD_eq_getElem?_getD, List.getD_eq_getElem?_getD, List.getElem?_eq_getElem (show a < (sqL L T o h).length by omega), List.getElem?_eq_getElem hb2]
  exact this
theorem sub_ne {x y : Int32} (h : x < y) : ¬ y - x = 0 := fun z => by
  have := Int32.sub_eq_iff_eq_add.mp z
  rw [Int32.zero_add] at this
  subst this
  exact Int32.lt_irrefl h
/-- the slope of the seers a, b -/
def sv (L T : Nat → Int32) (o : List Nat) (h a b : Nat) : Int32 := nI 100 * (rr L T o h b - rr L T o h a) / (gL L (sq L T o h b) 0 - gL L (sq L T o h a) 0)
/-- the slopes of a and those behind it, below b -/
def rowS (f : Nat → Nat → Int32) (a : Nat) : Nat → List Int32
  | 0 => []
  | b + 1 => if a < b then rowS f a b ++ [f a b] else rowS f a b
/-- the rows of the first a, each to M -/
def allS (f : Nat → Nat → Int32) (M : Nat) : Nat → List Int32
  | 0 => []
  | a + 1 => allS f M a ++ rowS f a M
theorem rowS_0 (f : Nat → Nat → Int32) (a : Nat) : ∀ b, b ≤ a + 1 → rowS f a b = [] := by
  intro b
  induction b with
  | zero => intro _; rfl
  | succ b ih =>
    intro h
    rw [rowS, if_neg (by omega)]
    exact ih (by omega)
theorem rowS_succ (f : Nat → Nat → Int32) {a b : Nat} (h : a < b) : rowS f a (b + 1) = rowS f a b ++ [f a b] := by rw [rowS, if_pos h]
theorem rowS_len (f : Nat → Nat → Int32) (a : Nat) : ∀ b, (rowS f a b).length ≤ b := by
  intro b
  induction b with
  | zero => exact Nat.le_refl 0
  | succ b ih =>
    rw [rowS]
    split
    · rw [List.length_append]; show _ + 1 ≤ _; omega
    · omega
theorem allS_len (f : Nat → Nat → Int32) {M : Nat} (hM : M ≤ 12) : ∀ a, (allS f M a).length ≤ 12 * a := by
  intro a
  induction a with
  | zero => exact Nat.le_refl 0
  | succ a ih =>
    rw [allS, List.length_append]
    have := rowS_len f a M
    omega
theorem allS_pos (f : Nat → Nat → Int32) {M : Nat} (hM : 2 ≤ M) : 0 < (allS f M M).length := by
  have h : ∀ a, 0 < a → a ≤ M → 0 < (allS f M a).length := by
    intro a
    induction a with
    | zero => intro h; omega
    | succ a ih =>
      intro _ h2
      rw [allS, List.length_append]
      rcases Nat.eq_zero_or_pos a with e | e
      · subst e
        obtain ⟨m, rfl⟩ : ∃ m, M = m + 1 := ⟨M - 1, by omega⟩
        rw [rowS_succ f (by omega), List.length_append]
        show 0 < _ + (_ + 1)
        omega
      · have := ih e (by omega)
        omega
  exact h M (by omega) (Nat.le_refl _)
/-- slope and base, as the document reckons them; -1000000 if fewer than 2 see it -/
def slp (L T : Nat → Int32) (o : List Nat) (h : Nat) : Int32 := if sqM L T o h < 2 then (-1000000) else midL (allS (sv L T o h) (sqM L T o h) (sqM L T o h))
def bas (L T : Nat → Int32) (o : List Nat) (h : Nat) : Int32 := if sqM L T o h < 2 then (-1000000) else mid (fun k => rr L T o h k - rise (slp L T o h) (gL L (sq L T o h k) 0)) (sqM L T o h)
theorem ls'_upd (v : Nat → Int32) (n : Nat) (x : Int32) : ls' (upd v n x) (n + 1) = ls' v n ++ [x] := by
  rw [ls'_succ, pk_us]
  congr 1
  exact ls'_congr (fun j hj => pk_un (by omega))
