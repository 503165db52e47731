-- ===== order: the ranks of those who see a halo are distinct; what the class seeks is what the reference finds =====
theorem findI_some {f : Nat → Bool} : ∀ (n j : Nat), findI f n = some j → j < n ∧ f j = true := by
  intro n
  induction n with
  | zero => intro j h; cases h
  | succ n ih =>
    intro j h
    simp only [findI] at h
    cases hk : findI f n with
    | some i =>
      rw [hk] at h
      have e : i = j := Option.some.inj h
      obtain ⟨g1, g2⟩ := ih i hk
      rw [← e]
      exact ⟨by omega, g2⟩
    | none =>
      rw [hk] at h
      dsimp only at h
      by_cases c : f n = true
      · rw [if_pos c] at h
        have e : n = j := Option.some.inj h
        rw [← e]
        exact ⟨Nat.lt_succ_self n, c⟩
      · rw [if_neg c] at h; cases h
theorem findI_none {f : Nat → Bool} : ∀ n, findI f n = none → ∀ k, k < n → f k = false := by
  intro n
  induction n with
  | zero => intro _ k hk; exact absurd hk (Nat.not_lt_zero _)
  | succ n ih =>
    intro h k hk
    simp only [findI] at h
    cases hk2 : findI f n with
    | some i => rw [hk2] at h; cases h
    | none =>
      rw [hk2] at h
      dsimp only at h
      by_cases c : f n = true
      · rw [if_pos c] at h; cases h
      · rcases Nat.lt_or_ge k n with e | e
        · exact ih hk2 k e
        · rw [show k = n by omega]; exact Bool.eq_false_iff.mpr c
theorem cnt_mono {f g : Nat → Bool} : ∀ n, (∀ k, k < n → f k = true → g k = true) → cnt f n ≤ cnt g n := by
  intro n
  induction n with
  | zero => intro _; exact Nat.le_refl _
  | succ n ih =>
    intro h
    have h1 := ih (fun k hk => h k (by omega))
    have h2 := h n (by omega)
    have h3 : (f n).toNat ≤ (g n).toNat := by
      revert h2
      cases f n <;> cases g n <;> intro h2
      · decide
      · decide
      · exact absurd (h2 rfl) (by decide)
      · decide
    show cnt f n + (f n).toNat ≤ cnt g n + (g n).toNat
    omega
theorem cnt_lt {f g : Nat → Bool} {k0 : Nat} : ∀ n, (∀ k, k < n → f k = true → g k = true) → k0 < n → f k0 = false → g k0 = true → cnt f n < cnt g n := by
  intro n
  induction n with
  | zero => intro _ hk; exact absurd hk (Nat.not_lt_zero _)
  | succ n ih =>
    intro h hk h0 h1
    rcases Nat.lt_or_ge k0 n with e | e
    · have q1 := ih (fun k hk => h k (by omega)) e h0 h1
      have h2 := h n (by omega)
      have h3 : (f n).toNat ≤ (g n).toNat := by
        revert h2
        cases f n <;> cases g n <;> intro h2
        · decide
        · decide
        · exact absurd (h2 rfl) (by decide)
        · decide
      show cnt f n + (f n).toNat < cnt g n + (g n).toNat
      omega
    · have e2 : k0 = n := by omega
      have q1 := cnt_mono (f := f) (g := g) n (fun k hk => h k (by omega))
      show cnt f n + (f n).toNat < cnt g n + (g n).toNat
      rw [← e2] at *
      rw [h0, h1]
      show _ + 0 < _ + 1
      omega
theorem ahB_spec {L T : Nat → Int32} {h s o : Nat} : ahB L T h s o = true ↔ see L T h o = true ∧ ((rdg L T h o).toInt < (rdg L T h s).toInt ∨ (rdg L T h o).toInt = (rdg L T h s).toInt ∧ o < s) := by
  simp only [ahB, Bool.and_eq_true, Bool.or_eq_true, decide_eq_true_eq, Int32.lt_iff_toInt_lt, ← Int32.toInt_inj]
theorem rank_lt {L T : Nat → Int32} {h s s' n : Nat} (hs : s < n) (h1 : ahB L T h s' s = true) : cnt (ahB L T h s) n < cnt (ahB L T h s') n := by
  have q := ahB_spec.mp h1
  refine cnt_lt (k0 := s) n (fun k hk hf => ?_) hs ?_ h1
  · have p := ahB_spec.mp hf
    exact ahB_spec.mpr ⟨p.1, by omega⟩
  · refine Bool.eq_false_iff.mpr (fun z => ?_)
    have p := ahB_spec.mp z
    omega
theorem rank_inj {L T : Nat → Int32} {h s s' n : Nat} (hs : s < n) (hs' : s' < n) (h1 : see L T h s = true) (h2 : see L T h s' = true) (he : cnt (ahB L T h s) n = cnt (ahB L T h s') n) : s = s' := by
  rcases Nat.lt_trichotomy s s' with e | e | e
  · rcases Int.lt_trichotomy (rdg L T h s).toInt (rdg L T h s').toInt with g | g | g
    · have := rank_lt (s' := s') hs (ahB_spec.mpr ⟨h1, Or.inl g⟩); omega
    · have := rank_lt (s' := s') hs (ahB_spec.mpr ⟨h1, Or.inr ⟨g, e⟩⟩); omega
    · have := rank_lt (s' := s) hs' (ahB_spec.mpr ⟨h2, Or.inl g⟩); omega
  · exact e
  · rcases Int.lt_trichotomy (rdg L T h s).toInt (rdg L T h s').toInt with g | g | g
    · have := rank_lt (s' := s') hs (ahB_spec.mpr ⟨h1, Or.inl g⟩); omega
    · have := rank_lt (s' := s) hs' (ahB_spec.mpr ⟨h2, Or.inr ⟨g.symm, e⟩⟩); omega
    · have := rank_lt (s' := s) hs' (ahB_spec.mpr ⟨h2, Or.inl g⟩); omega
theorem getD_map_range (l : List Nat) : (List.range l.length).map (fun k => l.getD k 0) = l := by
  apply List.ext_getElem?
  intro i
  rw [List.getElem?_map]
  rcases Nat.lt_or_ge i l.length with e | e
  · rw [List.getElem?_range e, Option.map_some, List.getD_eq_getElem?_getD, List.getElem?_eq_getElem e]; rfl
  · rw [List.getElem?_eq_none (by rw [List.length_range]; exact e), List.getElem?_eq_none e]; rfl
theorem cnt_list (l : List Nat) (g : Nat → Bool) : cnt (fun k => g (l.getD k 0)) l.length = (l.filter g).length := by
  rw [cnt_filter]
  conv => rhs; rw [← getD_map_range l, List.filter_map, List.length_map]
  rfl
theorem rank_eq {L T : Nat → Int32} {P : Nat → Int32} {n j i : Nat} {o : List Nat} (ho : IsOrd P n o) : cnt (ahR (fun k => rr L T o j k) (fun k => sq L T o j k) i) (sqL L T o j).length = cnt (ahB L T j (sq L T o j i)) n := by
  have e1 : cnt (ahR (fun k => rr L T o j k) (fun k => sq L T o j k) i) (sqL L T o j).length = ((sqL L T o j).filter (fun a => decide (rdg L T j a < rdg L T j (sq L T o j i)) || (decide (rdg L T j a = rdg L T j (sq L T o j i)) && decide (a < sq L T o j i)))).length := cnt_list (sqL L T o j) (fun a => decide (rdg L T j a < rdg L T j (sq L T o j i)) || (decide (rdg L T j a = rdg L T j (sq L T o j i)) && decide (a < sq L T o j i)))
  rw [e1, cnt_filter]
  have e2 : (sqL L T o j).Perm ((List.range n).filter (fun s => see L T j s)) := ho.perm.filter _
  rw [(e2.filter _).length_eq, List.filter_filter]
  congr 1
  refine List.filter_congr (fun a _ => ?_)
  show (_ && see L T j a) = ahB L T j (sq L T o j i) a
  rw [ahB, Bool.and_comm]
theorem order_eq {L T : Nat → Int32} {n j : Nat} {o : List Nat} {x : Int32} (hn : n ≤ 12) (ho : IsOrd (fun s => gL L s 0) n o) : ordC L T o j x = onI (findI (orB n L T j x) n) := by
  have hM : (sqL L T o j).length ≤ n := sqM_le ho
  have key : ∀ i, i < (sqL L T o j).length → (ordR (sqL L T o j).length (fun k => rr L T o j k) (fun k => sq L T o j k) x i = true ↔ orB n L T j x (sq L T o j i) = true) := fun i hi => by
    unfold ordR orB
    rw [rank_eq ho, sq_see hi, Bool.true_and]
  unfold ordC
  cases h1 : findI (ordR (sqL L T o j).length (fun k => rr L T o j k) (fun k => sq L T o j k) x) (sqL L T o j).length with
  | some i =>
    obtain ⟨hi, hf⟩ := findI_some _ _ h1
    have hb := (key i hi).mp hf
    have hlt : sq L T o j i < n := sq_lt ho hi
    cases h2 : findI (orB n L T j x) n with
    | some s =>
      obtain ⟨hs, hg⟩ := findI_some _ _ h2
      have hb2 := hb
      simp only [orB, Bool.and_eq_true, decide_eq_true_eq] at hb2 hg
      have hc1 := cnt_le (ahB L T j (sq L T o j i)) n
      have hc2 := cnt_le (ahB L T j s) n
      have e := rank_inj hlt hs hb2.1 hg.1 ((nI_eq (by omega) (by omega)).mp (hb2.2.trans hg.2.symm))
      show nI (sq L T o j i) = nI s
      rw [e]
    | none => exact absurd hb (by rw [findI_none n h2 _ hlt]; decide)
  | none =>
    cases h2 : findI (orB n L T j x) n with
    | some s =>
      obtain ⟨hs, hg⟩ := findI_some _ _ h2
      have hg2 := hg
      simp only [orB, Bool.and_eq_true] at hg2
      have hm : s ∈ sqL L T o j := List.mem_filter.mpr ⟨(ho.2.1 s).mpr hs, hg2.1⟩
      obtain ⟨k, hk⟩ := List.getElem?_of_mem hm
      have hkl := (List.getElem?_eq_some_iff.mp hk).1
      have e : sq L T o j k = s := by unfold sq; rw [List.getD_eq_getElem?_getD, hk]; rfl
      have := (key k hkl).mpr (by rw [e]; exact hg)
      rw [findI_none _ h1 k hkl] at this
      cases this
    | none => rfl
-- ===== the rows of the reference behind a call that changes them =====
theorem gL_ne {L : Nat → Int32} {i w j w' : Nat} {v : Int32} (hw : w < 13) (hw' : w' < 13) (h : j ≠ i ∨ w' ≠ w) : gL (upd L (13 * i + w) v) j w' = gL L j w' := pk_un (by omega)
theorem gL_eq {L : Nat → Int32} {i w : Nat} {v : Int32} : gL (upd L (13 * i + w) v) i w = v := pk_us
theorem okS_cg {L L' : Nat → Int32} {i : Nat} (h : ∀ w, w < 13 → gL L' i w = gL L i w) (hs : okS L i) : okS L' i := by
  have hn : nc L' i = nc L i := by unfold nc; rw [h 4 (by omega)]
  obtain ⟨h0, h1, h2, h3, ⟨h4, h5⟩, h6⟩ := hs
  refine ⟨by rw [h 0 (by omega)]; exact h0, by rw [h 1 (by omega)]; exact h1, by rw [h 2 (by omega)]; exact h2, by rw [h 3 (by omega)]; exact h3, ⟨by rw [h 4 (by omega), hn]; exact h4, by rw [hn]; exact h5⟩, fun k hk => ?_⟩
  rw [hn] at hk
  rw [h (5 + 2 * k) (by omega), h (5 + 2 * k + 1) (by omega)]
  exact h6 k hk
/-- rows without a station hold no correction and no clouds -/
def ZL (L : Nat → Int32) (n : Nat) : Prop := ∀ i, n ≤ i → gL L i 3 = 0 ∧ gL L i 4 = 0
theorem frB_all {L : Nat → Int32} {x : Int32} : ∀ n, frB L x n = true → ∀ k, k < n → ¬ gL L k 0 = x := by
  intro n h k hk e
  rw [frB_no e n hk] at h
  cases h
theorem OK.row {n hn : Nat} {L L' T : Nat → Int32} {i : Nat} (h : OK n hn L T) (hi : okS L' i) (h0 : gL L' i 0 = gL L i 0) (hr : ∀ j w, j ≠ i → w < 13 → gL L' j w = gL L j w) : OK n hn L' T := by
  obtain ⟨h1, h2, h3, h4⟩ := h
  have hp : ∀ j, gL L' j 0 = gL L j 0 := fun j => by
    by_cases c : j = i
    · rw [c]; exact h0
    · exact hr j 0 c (by omega)
  refine ⟨h1, fun j hj => ?_, h3, fun a b ha hb he => h4 a b ha hb (by rw [← hp a, ← hp b]; exact he)⟩
  by_cases c : j = i
  · rw [c]; exact hi
  · exact okS_cg (fun w hw => hr j w c hw) (h2 j hj)
theorem OK.correct {n hn : Nat} {L T : Nat → Int32} {i : Nat} {x : Int32} (h : OK n hn L T) (hi : i < n) (hx : inR (-100000) (nI 100000) x = true) : OK n hn (upd L (13 * i + 3) x) T := by
  have hs := h.2.1 i hi
  have r := inR_ti hx
  have r1 : (-100000 : Int32).toInt = -100000 := by decide
  have r2 : (nI 100000).toInt = 100000 := nI_toInt (by decide)
  rw [r1, r2] at r
  obtain ⟨h0, h1, h2, h3, h4, h5⟩ := hs
  have hn' : nc (upd L (13 * i + 3) x) i = nc L i := by unfold nc; rw [gL_ne (by omega) (by omega) (by omega)]
  refine h.row (i := i) ⟨?_, ?_, ?_, ?_, ?_, fun k hk => ?_⟩ (gL_ne (by omega) (by omega) (by omega)) (fun j w hj hw => gL_ne (by omega) hw (Or.inl hj))
  · rw [gL_ne (by omega) (by omega) (by omega)]; exact h0
  · rw [gL_ne (by omega) (by omega) (by omega)]; exact h1
  · rw [gL_ne (by omega) (by omega) (by omega)]; exact h2
  · rw [gL_eq]; exact r
  · rw [hn', gL_ne (by omega) (by omega) (by omega)]; exact h4
  · rw [hn'] at hk
    have hk4 := h4.2
    rw [gL_ne (by omega) (by omega) (by omega), gL_ne (by omega) (by omega) (by omega)]; exact h5 k hk
theorem OK.clear {n hn : Nat} {L T : Nat → Int32} {i : Nat} (h : OK n hn L T) (hi : i < n) : OK n hn (upd L (13 * i + 4) 0) T := by
  obtain ⟨h0, h1, h2, h3, h4, h5⟩ := h.2.1 i hi
  have hn' : nc (upd L (13 * i + 4) 0) i = 0 := by unfold nc; rw [gL_eq]; rfl
  refine h.row (i := i) ⟨?_, ?_, ?_, ?_, ?_, fun k hk => ?_⟩ (gL_ne (by omega) (by omega) (by omega)) (fun j w hj hw => gL_ne (by omega) hw (Or.inl hj))
  · rw [gL_ne (by omega) (by omega) (by omega)]; exact h0
  · rw [gL_ne (by omega) (by omega) (by omega)]; exact h1
  · rw [gL_ne (by omega) (by omega) (by omega)]; exact h2
  · rw [gL_ne (by omega) (by omega) (by omega)]; exact h3
  · rw [hn', gL_eq]; exact ⟨rfl, by omega⟩
  · rw [hn'] at hk; exact absurd hk (Nat.not_lt_zero _)
theorem Lcl_nc {L : Nat → Int32} {i : Nat} {x y : Int32} (h4 : nc L i < 4) : nc (Lcl L i x y) i = nc L i + 1 := by
  have e : gL (Lcl L i x y) i 4 = nI (nc L i + 1) := gL_eq
  show (gL (Lcl L i x y) i 4).toNatClampNeg = _
  rw [e, nI_clamp (by omega)]
theorem Lcl_lo {L : Nat → Int32} {i w : Nat} {x y : Int32} (h4 : nc L i < 4) (hw : w < 13) (h1 : w ≠ 4) (h2 : w < 5 + 2 * nc L i ∨ 5 + 2 * nc L i + 1 < w) : gL (Lcl L i x y) i w = gL L i w := by
  unfold Lcl
  rw [gL_ne (by omega) hw (Or.inr h1), gL_ne (by omega) hw (by omega), gL_ne (by omega) hw (by omega)]
theorem Lcl_f {L : Nat → Int32} {i : Nat} {x y : Int32} (h4 : nc L i < 4) : gL (Lcl L i x y) i (5 + 2 * nc L i) = x := by
  unfold Lcl
  rw [gL_ne (by omega) (by omega) (by omega), gL_ne (by omega) (by omega) (by omega), gL_eq]
theorem Lcl_u {L : Nat → Int32} {i : Nat} {x y : Int32} (h4 : nc L i < 4) : gL (Lcl L i x y) i (5 + 2 * nc L i + 1) = y := by
  unfold Lcl
  rw [gL_ne (by omega) (by omega) (by omega), gL_eq]
theorem Lcl_ne {L : Nat → Int32} {i j w : Nat} {x y : Int32} (h4 : nc L i < 4) (hw : w < 13) (h : j ≠ i) : gL (Lcl L i x y) j w = gL L j w := by
  unfold Lcl
  rw [gL_ne (by omega) hw (Or.inl h), gL_ne (by omega) hw (Or.inl h), gL_ne (by omega) hw (Or.inl h)]
theorem OK.cloud {n hn : Nat} {L T : Nat → Int32} {i : Nat} {x y : Int32} (h : OK n hn L T) (hi : i < n) (h4 : nc L i < 4) (hc : cB x y = true) : OK n hn (Lcl L i x y) T := by
  obtain ⟨h0, h1, h2, h3, h5, h6⟩ := h.2.1 i hi
  simp only [cB, Bool.and_eq_true, Bool.not_eq_true', decide_eq_false_iff_not, decide_eq_true_eq, Int32.lt_iff_toInt_lt] at hc
  have z0 : (0 : Int32).toInt = 0 := by decide
  rw [z0] at hc
  refine h.row (i := i) ⟨?_, ?_, ?_, ?_, ?_, fun k hk => ?_⟩ (Lcl_lo h4 (by omega) (by omega) (by omega)) (fun j w hj hw => Lcl_ne h4 hw hj)
  · rw [Lcl_lo h4 (by omega) (by omega) (by omega)]; exact h0
  · rw [Lcl_lo h4 (by omega) (by omega) (by omega)]; exact h1
  · rw [Lcl_lo h4 (by omega) (by omega) (by omega)]; exact h2
  · rw [Lcl_lo h4 (by omega) (by omega) (by omega)]; exact h3
  · rw [Lcl_nc h4]; exact ⟨gL_eq, by omega⟩
  · rw [Lcl_nc h4] at hk
    rcases Nat.lt_or_ge k (nc L i) with e | e
    · rw [Lcl_lo h4 (by omega) (by omega) (by omega), Lcl_lo h4 (by omega) (by omega) (by omega)]; exact h6 k e
    · rw [show k = nc L i by omega, Lcl_f h4, Lcl_u h4]; omega
theorem OK.lines {n hn : Nat} {L L' T : Nat → Int32} (h : OK n hn L T) (h0 : ∀ j, j < n → okS L' j) (hp : ∀ j, j < n → gL L' j 0 = gL L j 0) : OK n hn L' T :=
  ⟨h.1, h0, h.2.2.1, fun a b ha hb he => h.2.2.2 a b ha hb (by rw [← hp a ha, ← hp b hb]; exact he)⟩
theorem alL_ne (L : Nat → Int32) (t rd : Int32) {s w : Nat} (hw : w < 13) (h3 : w ≠ 3) : ∀ k, gL (alL L t rd k) s w = gL L s w := by
  intro k
  induction k with
  | zero => rfl
  | succ k ih =>
    show gL (upd (alL L t rd k) (13 * k + 3) _) s w = _
    rw [gL_ne (by omega) hw (Or.inr h3)]
    exact ih
theorem alL_3 (L : Nat → Int32) (t rd : Int32) {s : Nat} : ∀ k, s < k → gL (alL L t rd k) s 3 = gL L s 3 + (clk L s t - rd) := by
  intro k
  induction k with
  | zero => intro h; omega
  | succ k ih =>
    intro h
    show gL (upd (alL L t rd k) (13 * k + 3) _) s 3 = _
    rcases Nat.lt_or_ge s k with e | e
    · rw [gL_ne (by omega) (by omega) (by omega)]; exact ih e
    · rw [show s = k by omega, gL_eq]
theorem i_add (g u : Int32) : g + (u - g) = u := by
  rw [Int32.add_comm, Int32.sub_add_cancel]
theorem i_sub (g u c : Int32) : g + (u - g - c) = u - c := by
  rw [Int32.sub_eq_add_neg (u - g) c, ← Int32.add_assoc, i_add, ← Int32.sub_eq_add_neg]
theorem i_dif (g u c : Int32) : (u - c = g) ↔ (u - g - c = 0) := by
  rw [Int32.sub_eq_iff_eq_add, Int32.sub_eq_iff_eq_add, Int32.sub_eq_iff_eq_add, Int32.zero_add, Int32.add_comm g c]
theorem alC_eq (L : Nat → Int32) (s : Nat) (t rd : Int32) : alC L s t rd = unc L s t - rd := by
  unfold alC clk
  rw [i_add]
theorem OK.align {n hn : Nat} {L T : Nat → Int32} {t rd : Int32} (h : OK n hn L T) (hb : alB L t rd n = true) : OK n hn (alL L t rd n) T := by
  refine h.lines (fun j hj => ?_) (fun j hj => alL_ne L t rd (by omega) (by omega) n)
  obtain ⟨h0, h1, h2, h3, h5, h6⟩ := h.2.1 j hj
  have hc := inR_ti (alB_at hb j hj)
  have r1 : (-100000 : Int32).toInt = -100000 := by decide
  have r2 : (nI 100000).toInt = 100000 := nI_toInt (by decide)
  rw [r1, r2, alC_eq] at hc
  have hn' : nc (alL L t rd n) j = nc L j := by unfold nc; rw [alL_ne L t rd (by omega) (by omega) n]
  refine ⟨?_, ?_, ?_, ?_, ?_, fun k hk => ?_⟩
  · rw [alL_ne L t rd (by omega) (by omega) n]; exact h0
  · rw [alL_ne L t rd (by omega) (by omega) n]; exact h1
  · rw [alL_ne L t rd (by omega) (by omega) n]; exact h2
  · rw [alL_3 L t rd n hj]
    have e : gL L j 3 + (clk L j t - rd) = unc L j t - rd := i_sub _ _ _
    rw [e]; exact hc
  · rw [hn', alL_ne L t rd (by omega) (by omega) n]; exact h5
  · rw [hn'] at hk
    have := h5.2
    rw [alL_ne L t rd (by omega) (by omega) n, alL_ne L t rd (by omega) (by omega) n]; exact h6 k hk
theorem Lbu_lo {L : Nat → Int32} {n i w : Nat} {x y z : Int32} (hw : w < 13) (h : i ≠ n ∨ 3 ≤ w) : gL (Lbu L n x y z) i w = gL L i w := by
  unfold Lbu
  rw [gL_ne (by omega) hw (by omega), gL_ne (by omega) hw (by omega), gL_ne (by omega) hw (by omega)]
theorem Lbu_0 {L : Nat → Int32} {n : Nat} {x y z : Int32} : gL (Lbu L n x y z) n 0 = x := by
  unfold Lbu
  rw [gL_ne (by omega) (by omega) (by omega), gL_ne (by omega) (by omega) (by omega), gL_eq]
theorem Lbu_1 {L : Nat → Int32} {n : Nat} {x y z : Int32} : gL (Lbu L n x y z) n 1 = y := by
  unfold Lbu
  rw [gL_ne (by omega) (by omega) (by omega), gL_eq]
theorem Lbu_2 {L : Nat → Int32} {n : Nat} {x y z : Int32} : gL (Lbu L n x y z) n 2 = z := by
  unfold Lbu
  rw [gL_eq]
theorem OK.build {n hn : Nat} {L T : Nat → Int32} {x y z : Int32} (h : OK n hn L T) (hz : ZL L n) (h12 : n < 12) (hx : inR (nI 0) (nI 999) x = true) (hy : inR (-600) (nI 600) y = true) (hzz : inR (-99) (nI 99) z = true) (hf : frB L x n = true) : OK (n + 1) hn (Lbu L n x y z) T := by
  have rx := inR_ti hx
  have ry := inR_ti hy
  have rz := inR_ti hzz
  rw [show (nI 0).toInt = 0 from nI_toInt (by decide), show (nI 999).toInt = 999 from nI_toInt (by decide)] at rx
  rw [show (-600 : Int32).toInt = -600 by decide, show (nI 600).toInt = 600 from nI_toInt (by decide)] at ry
  rw [show (-99 : Int32).toInt = -99 by decide, show (nI 99).toInt = 99 from nI_toInt (by decide)] at rz
  obtain ⟨z3, z4⟩ := hz n (Nat.le_refl n)
  have hfr := frB_all n hf
  refine ⟨⟨by omega, h.1.2⟩, fun j hj => ?_, h.2.2.1, fun a b ha hb he => ?_⟩
  · rcases Nat.lt_or_ge j n with e | e
    · exact okS_cg (fun w hw => Lbu_lo hw (Or.inl (by omega))) (h.2.1 j e)
    · have e2 : j = n := by omega
      rw [e2]
      have hn4 : nc (Lbu L n x y z) n = 0 := by unfold nc; rw [Lbu_lo (by omega) (by omega), z4]; rfl
      refine ⟨by rw [Lbu_0]; exact rx, by rw [Lbu_1]; exact ry, by rw [Lbu_2]; exact rz, ?_, ?_, fun k hk => ?_⟩
      · rw [Lbu_lo (by omega) (by omega), z3]; decide
      · rw [hn4, Lbu_lo (by omega) (by omega), z4]; exact ⟨rfl, by omega⟩
      · rw [hn4] at hk; exact absurd hk (Nat.not_lt_zero _)
  · rcases Nat.lt_or_ge a n with e | e <;> rcases Nat.lt_or_ge b n with e2 | e2
    · rw [Lbu_lo (by omega) (by omega), Lbu_lo (by omega) (by omega)] at he
      exact h.2.2.2 a b e e2 he
    · rw [show b = n by omega, Lbu_0, Lbu_lo (by omega) (by omega)] at he
      exact absurd he (hfr a e)
    · rw [show a = n by omega, Lbu_0, Lbu_lo (by omega) (by omega)] at he
      exact absurd he.symm (hfr b e2)
    · omega
theorem Lad_lo {T : Nat → Int32} {hn j w : Nat} {x y z v : Int32} (hw : w < 4) (h : j ≠ hn) : gT' (Lad T hn x y z v) j w = gT' T j w := by
  unfold Lad
  exact pk_cpy_out (by omega)
theorem Lad_at {T : Nat → Int32} {hn w : Nat} {x y z v : Int32} (hw : w < 4) : gT' (Lad T hn x y z v) hn w = upd (upd (upd (upd (fun _ => 0) 0 x) 1 y) 2 z) 3 v w := by
  unfold Lad
  show va_cpy _ T 0 (4 * hn) 4 (4 * hn + w) = _
  rw [pk_cpy_in (by omega) (by omega), Nat.zero_add, Nat.add_sub_cancel_left]
theorem Lad_0 {T : Nat → Int32} {hn : Nat} {x y z v : Int32} : gT' (Lad T hn x y z v) hn 0 = x := by
  rw [Lad_at (by omega), pk_un (by omega), pk_un (by omega), pk_un (by omega), pk_us]
theorem Lad_1 {T : Nat → Int32} {hn : Nat} {x y z v : Int32} : gT' (Lad T hn x y z v) hn 1 = y := by
  rw [Lad_at (by omega), pk_un (by omega), pk_un (by omega), pk_us]
theorem Lad_2 {T : Nat → Int32} {hn : Nat} {x y z v : Int32} : gT' (Lad T hn x y z v) hn 2 = z := by
  rw [Lad_at (by omega), pk_un (by omega), pk_us]
theorem Lad_3 {T : Nat → Int32} {hn : Nat} {x y z v : Int32} : gT' (Lad T hn x y z v) hn 3 = v := by
  rw [Lad_at (by omega), pk_us]
theorem OK.halo {n hn : Nat} {L T : Nat → Int32} {x y z v : Int32} (h : OK n hn L T) (h16 : hn < 16) (hx : inR (nI 0) (nI 100000) x = true) (hy : inR (nI 0) (nI 999) y = true) (hz : inR (nI 1) (nI 99) z = true) (hv : inR (-1) (nI 1) v = true) : OK n (hn + 1) L (Lad T hn x y z v) := by
  have rx := inR_ti hx
  have ry := inR_ti hy
  have rz := inR_ti hz
  have rv := inR_ti hv
  rw [show (nI 0).toInt = 0 from nI_toInt (by decide), show (nI 100000).toInt = 100000 from nI_toInt (by decide)] at rx
  rw [show (nI 0).toInt = 0 from nI_toInt (by decide), show (nI 999).toInt = 999 from nI_toInt (by decide)] at ry
  rw [show (nI 1).toInt = 1 from nI_toInt (by decide), show (nI 99).toInt = 99 from nI_toInt (by decide)] at rz
  rw [show (-1 : Int32).toInt = -1 by decide, show (nI 1).toInt = 1 from nI_toInt (by decide)] at rv
  refine ⟨⟨h.1.1, by omega⟩, h.2.1, fun j hj => ?_, h.2.2.2⟩
  rcases Nat.lt_or_ge j hn with e | e
  · obtain ⟨a1, a2, a3, a4⟩ := h.2.2.1 j e
    refine ⟨?_, ?_, ?_, ?_⟩
    · rw [Lad_lo (by omega) (by omega)]; exact a1
    · rw [Lad_lo (by omega) (by omega)]; exact a2
    · rw [Lad_lo (by omega) (by omega)]; exact a3
    · rw [Lad_lo (by omega) (by omega)]; exact a4
  · rw [show j = hn by omega]
    refine ⟨by rw [Lad_0]; exact rx, by rw [Lad_1]; exact ry, by rw [Lad_2]; exact rz, by rw [Lad_3]; exact rv⟩
theorem ZL.ne {L L' : Nat → Int32} {n : Nat} (h : ZL L n) (hr : ∀ i w, n ≤ i → w < 13 → gL L' i w = gL L i w) : ZL L' n := fun i hi => by
  rw [hr i 3 hi (by omega), hr i 4 hi (by omega)]; exact h i hi
theorem ZL.build {L : Nat → Int32} {n : Nat} {x y z : Int32} (h : ZL L n) : ZL (Lbu L n x y z) (n + 1) := fun i hi => by
  rw [Lbu_lo (by omega) (by omega), Lbu_lo (by omega) (by omega)]; exact h i (by omega)
-- ===== a station more in the order of places =====
theorem cnt_pre {f : Nat → Bool} : ∀ n, (∀ j k, j < k → k < n → f k = true → f j = true) → ∀ k, k < n → (f k = true ↔ k < cnt f n) := by
  intro n
  induction n with
  | zero => intro _ k hk; exact absurd hk (Nat.not_lt_zero _)
  | succ n ih =>
    intro h k hk
    have ih' := ih (fun j k h1 h2 => h j k h1 (by omega))
    have hle := cnt_le f n
    show f k = true ↔ k < cnt f n + (f n).toNat
    cases hf : f n with
    | true =>
      have hall : cnt f n = n := by
        rcases Nat.eq_zero_or_pos n with z | z
        · rw [z]; rfl
        · have := (ih' (n - 1) (by omega)).mp (h (n - 1) n (by omega) (by omega) hf)
          omega
      have hk2 : f k = true := by
        rcases Nat.lt_or_ge k n with e | e
        · exact h k n e (by omega) hf
        · rw [show k = n by omega]; exact hf
      rw [hk2, hall]
      exact ⟨fun _ => by show k < n + 1; omega, fun _ => rfl⟩
    | false =>
      rcases Nat.lt_or_ge k n with e | e
      · exact ih' k e
      · have e2 : k = n := by omega
        rw [e2, hf]
        exact ⟨fun z => (by cases z), fun z => (by have : n < cnt f n + 0 := z; omega)⟩
/-- where a station at place x goes -/
def insP (L : Nat → Int32) (o : List Nat) (n : Nat) (x : Int32) : Nat := cnt (fun k => decide (gL L (o.getD k 0) 0 < x)) n
/-- the order with the station n at place x put in -/
def ordI (L : Nat → Int32) (o : List Nat) (n : Nat) (x : Int32) : List Nat := o.take (insP L o n x) ++ n :: o.drop (insP L o n x)
theorem insP_le {L : Nat → Int32} {o : List Nat} {n : Nat} {x : Int32} : insP L o n x ≤ n := cnt_le _ _
theorem ordI_get {L : Nat → Int32} {o : List Nat} {n k : Nat} {x : Int32} (hl : o.length = n) : (ordI L o n x).getD k 0 = if k < insP L o n x then o.getD k 0 else if k = insP L o n x then n else o.getD (k - 1) 0 := by
  have hp : insP L o n x ≤ n := insP_le
  have hlen : (o.take (insP L o n x)).length = insP L o n x := by rw [List.length_take]; omega
  unfold ordI
  rw [List.getD_eq_getElem?_getD]
  by_cases c : k < insP L o n x
  · rw [if_pos c, List.getElem?_append_left (by omega), List.getElem?_take, if_pos c, ← List.getD_eq_getElem?_getD]
  · rw [if_neg c, List.getElem?_append_right (by omega), hlen]
    by_cases c2 : k = insP L o n x
    · rw [if_pos c2, c2, Nat.sub_self]; rfl
    · rw [if_neg c2]
      obtain ⟨d, hd⟩ : ∃ d, k - insP L o n x = d + 1 := ⟨k - insP L o n x - 1, by omega⟩
      rw [hd, List.getElem?_cons_succ, List.getElem?_drop, ← List.getD_eq_getElem?_getD]
      congr 1
      omega
theorem ordI_ord {L : Nat → Int32} {o : List Nat} {n : Nat} {x y z : Int32} (ho : IsOrd (fun s => gL L s 0) n o) (hf : frB L x n = true) : IsOrd (fun s => gL (Lbu L n x y z) s 0) (n + 1) (ordI L o n x) := by
  have hl := ho.2.2
  have hp : insP L o n x ≤ n := insP_le
  have hfr := frB_all n hf
  have hP : ∀ s, s < n → gL (Lbu L n x y z) s 0 = gL L s 0 := fun s hs => Lbu_lo (by omega) (by omega)
  have hat : ∀ k, k < n → o[k]? = some (o.getD k 0) := fun k hk => by rw [List.getD_eq_getElem?_getD, List.getElem?_eq_getElem (by omega)]; rfl
  have hpre : ∀ k, k < n → (gL L (o.getD k 0) 0 < x ↔ k < insP L o n x) := fun k hk => by
    have h := cnt_pre (f := fun k => decide (gL L (o.getD k 0) 0 < x)) n (fun a b hab hb hfb => by
      have h1 := ho.asc hab (hat a (by omega)) (hat b hb)
      exact decide_eq_true (Int32.lt_trans h1 (of_decide_eq_true hfb))) k hk
    exact ⟨fun q => h.mp (decide_eq_true q), fun q => of_decide_eq_true (h.mpr q)⟩
  have htk : ∀ s, s ∈ o.take (insP L o n x) → s < n ∧ gL L s 0 < x := fun s hs => by
    obtain ⟨k, hk⟩ := List.getElem?_of_mem hs
    rw [List.getElem?_take] at hk
    by_cases c : k < insP L o n x
    · rw [if_pos c] at hk
      have hkn : k < n := by omega
      have e : o.getD k 0 = s := Option.some.inj ((hat k hkn).symm.trans hk)
      exact ⟨ho.lt hk, by rw [← e]; exact (hpre k hkn).mpr c⟩
    · rw [if_neg c] at hk; cases hk
  have hdr : ∀ s, s ∈ o.drop (insP L o n x) → s < n ∧ x < gL L s 0 := fun s hs => by
    obtain ⟨k, hk⟩ := List.getElem?_of_mem hs
    rw [List.getElem?_drop] at hk
    have hkn : insP L o n x + k < n := by have := (List.getElem?_eq_some_iff.mp hk).1; omega
    have e : o.getD (insP L o n x + k) 0 = s := Option.some.inj ((hat _ hkn).symm.trans hk)
    have hsn := ho.lt hk
    refine ⟨hsn, ?_⟩
    have h1 := mt (hpre _ hkn).mp (by omega)
    rw [e] at h1
    exact Int32.lt_of_le_of_ne (Int32.not_lt.mp h1) (fun q => hfr s hsn q.symm)
  have hnl : ∀ s, s < n → ¬ s = n := fun s hs e => by omega
  refine ⟨?_, fun i => ?_, ?_⟩
  · have hpw := ho.1
    rw [← List.take_append_drop (insP L o n x) o] at hpw
    obtain ⟨w1, w2, w3⟩ := List.pairwise_append.mp hpw
    refine List.pairwise_append.mpr ⟨w1.imp_of_mem (fun {a b} ha hb hab => ?_), List.pairwise_cons.mpr ⟨fun b hb => ?_, w2.imp_of_mem (fun {a b} ha hb hab => ?_)⟩, fun a ha b hb => ?_⟩
    · show gL (Lbu L n x y z) a 0 < gL (Lbu L n x y z) b 0
      rw [hP a (htk a ha).1, hP b (htk b hb).1]; exact hab
    · show gL (Lbu L n x y z) n 0 < gL (Lbu L n x y z) b 0
      rw [Lbu_0, hP b (hdr b hb).1]; exact (hdr b hb).2
    · show gL (Lbu L n x y z) a 0 < gL (Lbu L n x y z) b 0
      rw [hP a (hdr a ha).1, hP b (hdr b hb).1]; exact hab
    · rcases List.mem_cons.mp hb with e | hb
      · rw [e]
        show gL (Lbu L n x y z) a 0 < gL (Lbu L n x y z) n 0
        rw [Lbu_0, hP a (htk a ha).1]; exact (htk a ha).2
      · show gL (Lbu L n x y z) a 0 < gL (Lbu L n x y z) b 0
        rw [hP a (htk a ha).1, hP b (hdr b hb).1]; exact w3 a ha b hb
  · unfold ordI
    rw [List.mem_append, List.mem_cons]
    constructor
    · rintro (h | h | h)
      · have := (htk i h).1; omega
      · omega
      · have := (hdr i h).1; omega
    · intro h
      rcases Nat.lt_or_ge i n with e | e
      · have hm := (ho.2.1 i).mpr e
        rw [← List.take_append_drop (insP L o n x) o] at hm
        rcases List.mem_append.mp hm with g | g
        · exact Or.inl g
        · exact Or.inr (Or.inr g)
      · exact Or.inr (Or.inl (by omega))
  · unfold ordI
    rw [List.length_append, List.length_cons, List.length_take, List.length_drop]
    omega
