-- ===== the class's writers over the law's world =====
theorem k1_0 {c : Bool} (h : k1 c = 0) : c = true := by
  unfold k1 at h
  by_cases q : c = true
  · exact q
  · rw [if_neg q] at h; cases h
theorem k2_0 {c d : Bool} (h : k2 c d = 0) : c = true ∧ d = true := by
  unfold k2 at h
  by_cases q : c = true
  · rw [if_pos q] at h
    by_cases q2 : d = true
    · exact ⟨q, q2⟩
    · rw [if_neg q2] at h; cases h
  · rw [if_neg q] at h; cases h
theorem k3_0 {c d e : Bool} (h : k3 c d e = 0) : c = true ∧ d = true ∧ e = true := by
  unfold k3 at h
  by_cases q : c = true
  · rw [if_pos q] at h
    by_cases q2 : d = true
    · rw [if_pos q2] at h
      by_cases q3 : e = true
      · exact ⟨q, q2, q3⟩
      · rw [if_neg q3] at h; cases h
    · rw [if_neg q2] at h; cases h
  · rw [if_neg q] at h; cases h
theorem fr.wk {A B : Nat → Prop} {H H1 : Heap} (h : fr A H H1) (hAB : ∀ q, A q → B q) : fr B H H1 := ⟨h.1, fun q hq hn => h.2 q hq (fun z => hn (hAB q z))⟩
theorem D_three {A : Nat → Prop} {a b c : Nat} {x y z : va_E} (ha : A a) (hb : A b) (hc : A c) (h1 : ¬ a = b) (h2 : ¬ a = c) (h3 : ¬ b = c) : va_D A [(a, x), (b, y), (c, z)] := by
  refine ⟨fun i j p q hi hj hpq => ?_, fun k q hk => ?_⟩
  · match i, j, hi, hj with
    | 0, 0, _, _ => rfl
    | 1, 1, _, _ => rfl
    | 2, 2, _, _ => rfl
    | 0, 1, hi, hj => cases hi; cases hj; exact absurd hpq h1
    | 0, 2, hi, hj => cases hi; cases hj; exact absurd hpq h2
    | 1, 2, hi, hj => cases hi; cases hj; exact absurd hpq h3
    | 1, 0, hi, hj => cases hi; cases hj; exact absurd hpq.symm h1
    | 2, 0, hi, hj => cases hi; cases hj; exact absurd hpq.symm h2
    | 2, 1, hi, hj => cases hi; cases hj; exact absurd hpq.symm h3
  · match k, hk with
    | 0, hk => cases hk; exact ha
    | 1, hk => cases hk; exact hb
    | 2, hk => cases hk; exact hc
section CWST
variable {G : gT} {z0 : Nat} {tg : Nat → Nat} {xa n hn : Nat} {L L' T : Nat → Int32} {o : List Nat} {sa fa ta ha : Nat → Nat} {F U F' U' : Nat → Nat → Int32} {aS aB aH : Nat} {rb : Nat → Nat} {ri : Nat → Int32} {ra : Nat → Nat → Int32} {m9 : Nat} {mf : Nat → Int32} {H H1 : Heap} {A : Nat → Prop}
/-- the stations' cells anew, all else as it was -/
theorem CW_st (h : CWx G z0 tg xa n hn L T o sa fa ta ha F U aS aB aH rb ri ra m9 mf H) (hh : hn ≤ 16) (hf : fr (fun q => 100 ≤ tg q) H H1) (hst : ∀ i, i < n → stP G L' sa fa ta F' U' i H1) : CWx G z0 tg xa n hn L' T o sa fa ta ha F' U' aS aB aH rb ri ra m9 mf H1 := by
  obtain ⟨⟨h1, h2, h3⟩, ⟨h4, h5, h6⟩, ⟨h7, h8⟩, ⟨h9, h10, h11⟩, h12, h13⟩ := h
  have kp : ∀ q, q < H.size → tg q < 100 → H1[q]? = H[q]? := fun q hq hl => hf.2 q hq (fun z => by have : 100 ≤ tg q := z; omega)
  have mvS : ∀ (k : Nat), k ≤ 14 → ∀ (a m : Nat) (f : Nat → Nat), alZ G z0 (tgS tg k) a f m H → alZ G z0 (tgS tg k) a f m H1 := fun k hk2 a m f hz =>
    hz.mv (fun q hq hx => kp q hq (by rcases hx with e | e <;> omega)) (fun q _ hx => hx) (fun _ _ => rfl)
  exact ⟨⟨ptk h1 (fun hl9 => kp _ hl9 (by omega)), rP_kp h2 (fun k hk7 hl => kp _ hl (by have := h10 k hk7; omega)), ptk h3 (fun hl9 => kp _ hl9 (by omega))⟩, ⟨mvS 10 (by omega) _ _ _ h4, mvS 12 (by omega) _ _ _ h5, mvS 14 (by omega) _ _ _ h6⟩, ⟨hst, fun j hj => ptk (h8 j hj) (fun hl9 => kp _ hl9 (by have := h13 j hj; omega))⟩, ⟨h9, h10, h11⟩, h12, h13⟩
theorem st_ne (h : CWx G z0 tg xa n hn L T o sa fa ta ha F U aS aB aH rb ri ra m9 mf H) (hg : OK n hn L T) {i j : Nat} (hj : j < n) (e : ¬ j = i) (hf : fr A H H1) (hA : ∀ q, A q → 100 + 3 * i ≤ tg q ∧ tg q ≤ 102 + 3 * i) (hrow : ∀ w, w < 13 → gL L' j w = gL L j w) (hF : F' j = F j) (hU : U' j = U j) : stP G L' sa fa ta F' U' j H1 := by
  obtain ⟨b1, b2, b3, b4⟩ := h.2.2.1.1 j hj
  obtain ⟨a1, a2, a3⟩ := h.2.2.2.2.1 j hj
  have kp : ∀ q, q < H.size → 100 + 3 * j ≤ tg q ∧ tg q ≤ 102 + 3 * j → H1[q]? = H[q]? := fun q hq hl => hf.2 q hq (fun z => by have := hA q z; omega)
  have hn' : nc L' j = nc L j := by unfold nc; rw [hrow 4 (by omega)]
  have h4 := hg.c4 hj
  refine ⟨?_, ?_, ?_, fun k hk => ?_⟩
  · rw [stO_cg (fun w hw => hrow w (by omega))]
    exact ptk b1 (fun hl9 => kp _ hl9 (by omega))
  · rw [hF]; exact ptk b2 (fun hl9 => kp _ hl9 (by omega))
  · rw [hU]; exact ptk b3 (fun hl9 => kp _ hl9 (by omega))
  · rw [hn'] at hk
    rw [hF, hU, hrow _ (by omega), hrow _ (by omega)]
    exact b4 k hk
end CWST
theorem stO_clear {L : Nat → Int32} {i f u : Nat} : stO (upd L (13 * i + 4) 0) i f u = .inr (2, [.int (nI i), .int (gL L i 0), .int (gL L i 1), .int (gL L i 2), .int (gL L i 3), .int (nI 0), .ref f, .ref u]) := by
  unfold stO
  rw [gL_ne (by omega) (by omega) (by omega), gL_ne (by omega) (by omega) (by omega), gL_ne (by omega) (by omega) (by omega), gL_ne (by omega) (by omega) (by omega), gL_eq]
  rfl
theorem stO_correct {L : Nat → Int32} {i f u : Nat} {x : Int32} : stO (upd L (13 * i + 3) x) i f u = .inr (2, [.int (nI i), .int (gL L i 0), .int (gL L i 1), .int (gL L i 2), .int x, .int (gL L i 4), .ref f, .ref u]) := by
  unfold stO
  rw [gL_ne (by omega) (by omega) (by omega), gL_ne (by omega) (by omega) (by omega), gL_ne (by omega) (by omega) (by omega), gL_eq, gL_ne (by omega) (by omega) (by omega)]
theorem stO_cloud {L : Nat → Int32} {i f u : Nat} {x y : Int32} (h4 : nc L i < 4) : stO (Lcl L i x y) i f u = .inr (2, [.int (nI i), .int (gL L i 0), .int (gL L i 1), .int (gL L i 2), .int (gL L i 3), .int (nI (nc L i + 1)), .ref f, .ref u]) := by
  have e4 : gL (Lcl L i x y) i 4 = nI (nc L i + 1) := gL_eq
  unfold stO
  rw [e4, Lcl_lo h4 (by omega) (by omega) (by omega), Lcl_lo h4 (by omega) (by omega) (by omega), Lcl_lo h4 (by omega) (by omega) (by omega), Lcl_lo h4 (by omega) (by omega) (by omega)]
section KWR
variable {l : Launch} {G : gT} {zA : Nat × Nat} {H0 : Heap} {tg : Nat → Nat} {xa n hn : Nat} {L T : Nat → Int32} {o : List Nat} {x1 x2 x3 x4 : Int32}
theorem k_clear (hW : CW G zA.1 tg xa n hn L T o H0) (ht : ∀ q, tg q ≠ 0 → q < H0.size) (hg : OK n hn L T) (ho : IsOrd (fun s => gL L s 0) n o) (hst : l.stackTraces = false) : VzI G zA l yX3_clear wsX3_clear rmX3_clear [.ref xa, .int x1] H0 (aC tg H0) 1 6 [eIX] (k1 (vS n x1)) (fun r H1 => r = gL L x1.toNatClampNeg 4 ∧ CP G zA.1 tg xa H0 n hn (if k1 (vS n x1) = 0 then upd L (13 * x1.toNatClampNeg + 4) 0 else L) T o H1) := by
  obtain ⟨sa, fa, ta, ha, F, U, aS, aB, aH, rb, ri, ra, m9, mf, h⟩ := hW
  refine VzI.wk (c_X3_clear (A := fun q => tg q = 100 + 3 * x1.toNatClampNeg) h.1.1 h.cr hg ho (fun i hi e => by show tg (sa i) = _; rw [e, nI_clamp (by have := hg.n; omega)]; exact (h.2.2.2.2.1 i hi).1) hst) (fun q z => Or.inl (Or.inr (by have : tg q = 100 + 3 * x1.toNatClampNeg := z; omega))) (fun hk0 r H1 hf e => ?_)
  obtain ⟨e1, e2⟩ := e
  obtain ⟨i, hi, rfl⟩ := inR_nat (show n < 2 ^ 30 by have := hg.n; omega) (k1_0 hk0)
  have hcl : (nI i).toNatClampNeg = i := nI_clamp (by have := hg.n; omega)
  rw [hcl] at e1 e2 hf ⊢
  rw [if_pos hk0]
  obtain ⟨b1, b2, b3, b4⟩ := h.2.2.1.1 i hi
  obtain ⟨a1, a2, a3⟩ := h.2.2.2.2.1 i hi
  refine ⟨e1, CP.of ⟨sa, fa, ta, ha, F, U, aS, aB, aH, rb, ri, ra, m9, mf, CW_st h hg.hn (hf.wk (fun q z => by have : tg q = 100 + 3 * i := z; omega)) (fun j hj => ?_)⟩ ht⟩
  by_cases e : j = i
  · subst e
    refine ⟨?_, ptk b2 (fun hl9 => hf.2 _ hl9 (fun z => by have : tg (fa j) = 100 + 3 * j := z; omega)), ptk b3 (fun hl9 => hf.2 _ hl9 (fun z => by have : tg (ta j) = 100 + 3 * j := z; omega)), fun c hc => ?_⟩
    · rw [stO_clear]; exact e2
    · have hn' : nc (upd L (13 * j + 4) 0) j = 0 := by unfold nc; rw [gL_eq]; rfl
      rw [hn'] at hc; exact absurd hc (Nat.not_lt_zero _)
  · exact st_ne h hg hj e hf (fun q z => by have : tg q = 100 + 3 * i := z; omega) (fun w hw => gL_ne (by omega) hw (Or.inl e)) rfl rfl
theorem k_correct (hW : CW G zA.1 tg xa n hn L T o H0) (ht : ∀ q, tg q ≠ 0 → q < H0.size) (hg : OK n hn L T) (ho : IsOrd (fun s => gL L s 0) n o) (hst : l.stackTraces = false) : VzI G zA l yX3_correct wsX3_correct rmX3_correct [.ref xa, .int x1, .int x2] H0 (aC tg H0) 1 6 [eIX, eIA] (k2 (vS n x1) (inR (-100000) (nI 100000) x2)) (fun r H1 => r = gL L x1.toNatClampNeg 3 ∧ CP G zA.1 tg xa H0 n hn (if k2 (vS n x1) (inR (-100000) (nI 100000) x2) = 0 then upd L (13 * x1.toNatClampNeg + 3) x2 else L) T o H1) := by
  obtain ⟨sa, fa, ta, ha, F, U, aS, aB, aH, rb, ri, ra, m9, mf, h⟩ := hW
  refine VzI.wk (c_X3_correct (A := fun q => tg q = 100 + 3 * x1.toNatClampNeg) h.1.1 h.cr hg ho (fun i hi e => by show tg (sa i) = _; rw [e, nI_clamp (by have := hg.n; omega)]; exact (h.2.2.2.2.1 i hi).1) hst) (fun q z => Or.inl (Or.inr (by have : tg q = 100 + 3 * x1.toNatClampNeg := z; omega))) (fun hk0 r H1 hf e => ?_)
  obtain ⟨e1, e2⟩ := e
  obtain ⟨i, hi, rfl⟩ := inR_nat (show n < 2 ^ 30 by have := hg.n; omega) (k2_0 hk0).1
  have hcl : (nI i).toNatClampNeg = i := nI_clamp (by have := hg.n; omega)
  rw [hcl] at e1 e2 hf ⊢
  rw [if_pos hk0]
  have h4 := hg.c4 hi
  obtain ⟨b1, b2, b3, b4⟩ := h.2.2.1.1 i hi
  obtain ⟨a1, a2, a3⟩ := h.2.2.2.2.1 i hi
  refine ⟨e1, CP.of ⟨sa, fa, ta, ha, F, U, aS, aB, aH, rb, ri, ra, m9, mf, CW_st h hg.hn (hf.wk (fun q z => by have : tg q = 100 + 3 * i := z; omega)) (fun j hj => ?_)⟩ ht⟩
  by_cases e : j = i
  · subst e
    refine ⟨?_, ptk b2 (fun hl9 => hf.2 _ hl9 (fun z => by have : tg (fa j) = 100 + 3 * j := z; omega)), ptk b3 (fun hl9 => hf.2 _ hl9 (fun z => by have : tg (ta j) = 100 + 3 * j := z; omega)), fun c hc => ?_⟩
    · rw [stO_correct]; exact e2
    · have hn' : nc (upd L (13 * j + 3) x2) j = nc L j := by unfold nc; rw [gL_ne (by omega) (by omega) (by omega)]
      rw [hn'] at hc
      rw [gL_ne (by omega) (by omega) (by omega), gL_ne (by omega) (by omega) (by omega)]
      exact b4 c hc
  · exact st_ne h hg hj e hf (fun q z => by have : tg q = 100 + 3 * i := z; omega) (fun w hw => gL_ne (by omega) hw (Or.inl e)) rfl rfl
theorem k_cloud (hW : CW G zA.1 tg xa n hn L T o H0) (ht : ∀ q, tg q ≠ 0 → q < H0.size) (hg : OK n hn L T) (ho : IsOrd (fun s => gL L s 0) n o) (hst : l.stackTraces = false) : VzI G zA l yX3_cloud wsX3_cloud rmX3_cloud [.ref xa, .int x1, .int x2, .int x3] H0 (aC tg H0) 1 6 [eIX, eIA, eIS] (k3 (vS n x1) (cB x2 x3) (decide (¬ nc L x1.toNatClampNeg = 4))) (fun r H1 => r = nI (nc L x1.toNatClampNeg + 1) ∧ CP G zA.1 tg xa H0 n hn (if k3 (vS n x1) (cB x2 x3) (decide (¬ nc L x1.toNatClampNeg = 4)) = 0 then Lcl L x1.toNatClampNeg x2 x3 else L) T o H1) := by
  obtain ⟨sa, fa, ta, ha, F, U, aS, aB, aH, rb, ri, ra, m9, mf, h⟩ := hW
  refine VzI.wk (c_X3_cloud (A := fun q => 100 + 3 * x1.toNatClampNeg ≤ tg q ∧ tg q ≤ 102 + 3 * x1.toNatClampNeg) h.1.1 h.cr hg ho (fun i hi e => by
    obtain ⟨a1, a2, a3⟩ := h.2.2.2.2.1 i hi
    have hcl : x1.toNatClampNeg = i := by rw [e]; exact nI_clamp (by have := hg.n; omega)
    rw [hcl]
    exact D_three (by show 100 + 3 * i ≤ tg (sa i) ∧ tg (sa i) ≤ 102 + 3 * i; omega) (by show 100 + 3 * i ≤ tg (fa i) ∧ tg (fa i) ≤ 102 + 3 * i; omega) (by show 100 + 3 * i ≤ tg (ta i) ∧ tg (ta i) ≤ 102 + 3 * i; omega) (fun z => by rw [z] at a1; omega) (fun z => by rw [z] at a1; omega) (fun z => by rw [z] at a2; omega)) hst) (fun q z => Or.inl (Or.inr (by have := z.1; omega))) (fun hk0 r H1 hf e => ?_)
  obtain ⟨e1, e2⟩ := e
  obtain ⟨i, hi, rfl⟩ := inR_nat (show n < 2 ^ 30 by have := hg.n; omega) (k3_0 hk0).1
  have hcl : (nI i).toNatClampNeg = i := nI_clamp (by have := hg.n; omega)
  have h44 : nc L i < 4 := by
    have h9 := of_decide_eq_true (k3_0 hk0).2.2
    rw [hcl] at h9
    have := hg.c4 hi
    omega
  rw [if_pos hk0]
  rw [hcl] at e1 e2 hf ⊢
  obtain ⟨b1, b2, b3, b4⟩ := h.2.2.1.1 i hi
  obtain ⟨a1, a2, a3⟩ := h.2.2.2.2.1 i hi
  refine ⟨e1, CP.of ⟨sa, fa, ta, ha, (fun j => if j = i then upd (F i) (nc L i) x2 else F j), (fun j => if j = i then upd (U i) (nc L i) x3 else U j), aS, aB, aH, rb, ri, ra, m9, mf, CW_st h hg.hn (hf.wk (fun q z => by have := z.1; show 100 ≤ tg q; omega)) (fun j hj => ?_)⟩ ht⟩
  by_cases e : j = i
  · subst e
    refine ⟨?_, ?_, ?_, fun c hc => ?_⟩
    · rw [stO_cloud h44]; exact e2 0 _ rfl
    · dsimp only; rw [if_pos rfl]; exact e2 1 _ rfl
    · dsimp only; rw [if_pos rfl]; exact e2 2 _ rfl
    · rw [Lcl_nc h44] at hc
      dsimp only
      rw [if_pos rfl, if_pos rfl]
      rcases Nat.lt_or_ge c (nc L j) with g | g
      · rw [pk_un (by omega), pk_un (by omega), Lcl_lo h44 (by omega) (by omega) (by omega), Lcl_lo h44 (by omega) (by omega) (by omega)]
        exact b4 c g
      · rw [show c = nc L j by omega, pk_us, pk_us, Lcl_f h44, Lcl_u h44]
        exact ⟨rfl, rfl⟩
  · exact st_ne h hg hj e hf (fun q z => z) (fun w hw => Lcl_ne h44 hw e) (if_neg e) (if_neg e)
theorem k_align (hW : CW G zA.1 tg xa n hn L T o H0) (ht : ∀ q, tg q ≠ 0 → q < H0.size) (hg : OK n hn L T) (ho : IsOrd (fun s => gL L s 0) n o) (hst : l.stackTraces = false) : VzI G zA l yX3_align wsX3_align rmX3_align [.ref xa, .int x1, .int x2] H0 (aC tg H0) 1 6 [eIX, eIA, eIS] (k3 (vS n x1) (inR (nI 0) (nI 1000000) x2) (alB L x2 (clk L x1.toNatClampNeg x2) n)) (fun r H1 => r = nI (cnt (alD L x2 (clk L x1.toNatClampNeg x2)) n) ∧ CP G zA.1 tg xa H0 n hn (if k3 (vS n x1) (inR (nI 0) (nI 1000000) x2) (alB L x2 (clk L x1.toNatClampNeg x2) n) = 0 then alL L x2 (clk L x1.toNatClampNeg x2) n else L) T o H1) := by
  obtain ⟨sa, fa, ta, ha, F, U, aS, aB, aH, rb, ri, ra, m9, mf, h⟩ := hW
  refine VzI.wk (c_X3_align (A := fun q => ∃ i, i < n ∧ tg q = 100 + 3 * i) (rl := fun q => 10 ≤ tg q ∧ tg q ≤ 15) h.1.1 h.cr hg ho (h.2.1.1.x.mono (fun q hq => by rcases hq with e | e <;> (show 10 ≤ tg q ∧ tg q ≤ 15; omega))) (fun q hq z => by obtain ⟨i, h1, h2⟩ := z; have := hq.2; omega) (fun i hi => ⟨fun z => by obtain ⟨j, h1, h2⟩ := z; have := (h.2.2.2.2.1 i hi).2.1; omega, fun z => by obtain ⟨j, h1, h2⟩ := z; have := (h.2.2.2.2.1 i hi).2.2; omega⟩) (fun i hi => ⟨i, hi, (h.2.2.2.2.1 i hi).1⟩) (fun i j hi hj e => by have h1 := (h.2.2.2.2.1 i hi).1; have h2 := (h.2.2.2.2.1 j hj).1; rw [e] at h1; omega) (fun z => by obtain ⟨j, h1, h2⟩ := z; have := h.2.2.2.1.1; omega) hst) (fun q z => by obtain ⟨i, h1, h2⟩ := z; exact Or.inl (Or.inr (by omega))) (fun hk0 r H1 hf e => ?_)
  obtain ⟨e1, e2⟩ := e
  rw [if_pos hk0]
  exact ⟨e1, CP.of ⟨sa, fa, ta, ha, F, U, aS, aB, aH, rb, ri, ra, m9, mf, CW_st h hg.hn (hf.wk (fun q z => by obtain ⟨i, h1, h2⟩ := z; show 100 ≤ tg q; omega)) e2⟩ ht⟩
theorem k_addHalo (hW : CW G zA.1 tg xa n hn L T o H0) (ht : ∀ q, tg q ≠ 0 → q < H0.size) (hg : OK n hn L T) (ho : IsOrd (fun s => gL L s 0) n o) (hst : l.stackTraces = false) : VzI G zA l yX3_addHalo wsX3_addHalo rmX3_addHalo [.ref xa, .int x1, .int x2, .int x3, .int x4] H0 (aC tg H0) 2 26 [eIA, eIS] (k2 (inR (nI 0) (nI 100000) x1 && inR (nI 0) (nI 999) x2 && inR (nI 1) (nI 99) x3 && inR (-1) (nI 1) x4) (decide (¬ hn = 16))) (fun r H1 => r = nI hn ∧ CP G zA.1 tg xa H0 n (if k2 (inR (nI 0) (nI 100000) x1 && inR (nI 0) (nI 999) x2 && inR (nI 1) (nI 99) x3 && inR (-1) (nI 1) x4) (decide (¬ hn = 16)) = 0 then hn + 1 else hn) L (if k2 (inR (nI 0) (nI 100000) x1 && inR (nI 0) (nI 999) x2 && inR (nI 1) (nI 99) x3 && inR (-1) (nI 1) x4) (decide (¬ hn = 16)) = 0 then Lad T hn x1 x2 x3 x4 else T) o H1) := by
  obtain ⟨sa, fa, ta, ha, F, U, aS, aB, aH, rb, ri, ra, m9, mf, h⟩ := hW
  have hlt : ∀ q, tgS tg 14 q → q < H0.size := fun q hq => ht q (by rcases hq with e | e <;> omega)
  refine VzI.wk (c_X3_addHalo (A := fun q => tgS tg 14 q ∨ H0.size ≤ q) (XH := tgS tg 14) h.1.1 h.cr hg ho h.2.1.2.2 (fun q hq => Or.inl hq) hlt (fun q hq => Or.inr hq) (fun j hj z => by have := h.2.2.2.2.2 j hj; have := hg.hn; rcases z with e | e <;> omega) (fun z => by have := h.2.2.2.1.1; rcases z with e | e <;> omega) hst) (fun q z => z.elim (fun z => Or.inl (Or.inl (by rcases z with e | e <;> omega))) Or.inr) (fun hk0 r H1 hf e => ?_)
  obtain ⟨e1, h9, N1, ⟨g1, g2⟩, g3, g4⟩ := e
  rw [if_pos hk0, if_pos hk0]
  have h16 : hn < 16 := by have := of_decide_eq_true (k2_0 hk0).2; have := hg.hn; omega
  have kp : ∀ q, q < H0.size → ¬ tgS tg 14 q → H1[q]? = H0[q]? := fun q hq hx => hf.2 q hq (fun z => z.elim hx (fun z => by omega))
  obtain ⟨⟨h1, h2, h3⟩, ⟨h4, h5, h6⟩, ⟨h7, h8⟩, ⟨t9, t10, t11⟩, t12, t13⟩ := h
  obtain ⟨tn, etn⟩ : ∃ tn : Nat → Nat, tn = fun q => if q < H0.size then tg q else if q = h9 then 40 + hn else if N1 ≤ q ∧ q < H1.size then 15 else 0 := ⟨_, rfl⟩
  have ol : ∀ q, q < H0.size → tn q = tg q := fun q hq => by rw [etn]; exact if_pos hq
  have n1 : tn h9 = 40 + hn := by rw [etn]; dsimp only; rw [if_neg (by omega), if_pos rfl]
  have n2 : ∀ q, N1 ≤ q → q < H1.size → tn q = 15 := fun q a b => by rw [etn]; dsimp only; rw [if_neg (by omega), if_neg (by omega), if_pos ⟨a, b⟩]
  have n6 : ∀ q, H0.size ≤ q → tn q ≠ 0 → tgC tn q ∧ q < H1.size := fun q hq h0 => by
    by_cases c : q = h9
    · rw [c]; exact ⟨Or.inr (by rw [n1]; omega), ptl g3⟩
    · by_cases c2 : N1 ≤ q ∧ q < H1.size
      · exact ⟨Or.inl (by rw [n2 q c2.1 c2.2]; omega), c2.2⟩
      · exfalso; apply h0; rw [etn]; dsimp only; rw [if_neg (by omega), if_neg c, if_neg c2]
  refine ⟨e1, tn, ol, n6, sa, fa, ta, (fun k => if k < hn then ha k else h9), F, U, aS, aB, aH, rb, ri, ra, m9, mf, ?_⟩
  have mvS : ∀ (k : Nat), k = 10 ∨ k = 12 → ∀ (a m : Nat) (f : Nat → Nat), alZ G zA.1 (tgS tg k) a f m H0 → alZ G zA.1 (tgS tn k) a f m H1 := fun k hk a m f hz =>
    hz.mv (fun q hq hx => kp q hq (fun z => by rcases hx with e | e <;> rcases z with e2 | e2 <;> omega)) (fun q hq hx => by show tn q = k ∨ tn q = k + 1; rw [ol q hq]; exact hx) (fun _ _ => rfl)
  have kps : ∀ i, i < n → stP G L sa fa ta F U i H1 := fun i hi => (h7 i hi).kp (fun q hq e => kp q hq (fun z => by
    obtain ⟨a1, a2, a3⟩ := t12 i hi
    rcases e with e | e | e <;> (rw [e] at z; rcases z with z | z <;> omega)))
  refine ⟨⟨ptk h1 (fun hl9 => kp _ hl9 (fun z => by rcases z with z | z <;> omega)), rP_kp h2 (fun k hk7 hl => kp _ hl (fun z => by have := t10 k hk7; rcases z with z | z <;> omega)), ptk h3 (fun hl9 => kp _ hl9 (fun z => by rcases z with z | z <;> omega))⟩, ⟨mvS 10 (Or.inl rfl) _ _ _ h4, mvS 12 (Or.inr rfl) _ _ _ h5, g4.mv (fun _ _ _ => rfl) (fun q hq hx => ?_) (fun _ _ => rfl)⟩, ⟨kps, fun j hj => ?_⟩, ⟨?_, fun k hk7 => ?_, ?_⟩, fun i hi => ?_, fun j hj => ?_⟩
  · show tn q = 14 ∨ tn q = 15
    rcases hx with hx | hx
    · rw [ol q (hlt q hx)]; exact hx
    · rw [n2 q hx hq]; exact Or.inr rfl
  · show pt G (if j < hn then ha j else h9) _ H1
    by_cases c : j < hn
    · rw [if_pos c, Lad_lo (by omega) (by omega), Lad_lo (by omega) (by omega), Lad_lo (by omega) (by omega), Lad_lo (by omega) (by omega)]
      exact ptk (h8 j c) (fun hl9 => kp _ hl9 (fun z => by have := t13 j c; rcases z with z | z <;> omega))
    · rw [if_neg c, show j = hn by omega, Lad_0, Lad_1, Lad_2, Lad_3]
      exact g3
  · rw [ol _ (ptl h1)]; exact t9
  · rw [ol _ (ht _ (by have := t10 k hk7; omega))]; exact t10 k hk7
  · rw [ol _ (ptl h3)]; exact t11
  · obtain ⟨a1, a2, a3⟩ := t12 i hi
    obtain ⟨b1, b2, b3, -⟩ := h7 i hi
    rw [ol _ (ptl b1), ol _ (ptl b2), ol _ (ptl b3)]
    exact ⟨a1, a2, a3⟩
  · show tn (if j < hn then ha j else h9) = 40 + j
    by_cases c : j < hn
    · rw [if_pos c, ol _ (ptl (h8 j c))]; exact t13 j c
    · rw [if_neg c, n1]; omega
theorem k_build (hW : CW G zA.1 tg xa n hn L T o H0) (ht : ∀ q, tg q ≠ 0 → q < H0.size) (hg : OK n hn L T) (ho : IsOrd (fun s => gL L s 0) n o) (hst : l.stackTraces = false) (hz : ZL L n) : VzI G zA l yX3_build wsX3_build rmX3_build [.ref xa, .int x1, .int x2, .int x3] H0 (aC tg H0) 5 60 [eIA, eIS] (k2 (inR (nI 0) (nI 999) x1 && inR (-600) (nI 600) x2 && inR (-99) (nI 99) x3) (decide (n < 12) && frB L x1 n)) (fun r H1 => r = nI n ∧ CP G zA.1 tg xa H0 (if k2 (inR (nI 0) (nI 999) x1 && inR (-600) (nI 600) x2 && inR (-99) (nI 99) x3) (decide (n < 12) && frB L x1 n) = 0 then n + 1 else n) hn (if k2 (inR (nI 0) (nI 999) x1 && inR (-600) (nI 600) x2 && inR (-99) (nI 99) x3) (decide (n < 12) && frB L x1 n) = 0 then Lbu L n x1 x2 x3 else L) T (if k2 (inR (nI 0) (nI 999) x1 && inR (-600) (nI 600) x2 && inR (-99) (nI 99) x3) (decide (n < 12) && frB L x1 n) = 0 then ordI L o n x1 else o) H1) := by
  obtain ⟨sa, fa, ta, ha, F, U, aS, aB, aH, rb, ri, ra, m9, mf, h⟩ := hW
  have hltS : ∀ q, tgS tg 10 q → q < H0.size := fun q hq => ht q (by rcases hq with e | e <;> omega)
  have hltB : ∀ q, tgS tg 12 q → q < H0.size := fun q hq => ht q (by rcases hq with e | e <;> omega)
  refine VzI.wk (c_X3_build (A := fun q => tgS tg 10 q ∨ tgS tg 12 q ∨ H0.size ≤ q) (XS := tgS tg 10) (XB := tgS tg 12) (rs := fun q => tg q = 1 ∨ 16 ≤ tg q) h.1.1 h.cr hg ho h.2.1.1 h.2.1.2.1 (fun q hq => Or.inl hq) (fun q hq => Or.inr (Or.inl hq)) hltS hltB (fun q h1 h2 => by rcases h1 with e | e <;> rcases h2 with e2 | e2 <;> omega) (fun q hq => Or.inr (Or.inr hq)) (fun i hi => ⟨h.2.2.1.1 i hi, Or.inr (by have := (h.2.2.2.2.1 i hi).1; omega), Or.inr (by have := (h.2.2.2.2.1 i hi).2.1; omega), Or.inr (by have := (h.2.2.2.2.1 i hi).2.2; omega)⟩) (fun q hq => ⟨fun z => by rcases hq with e | e <;> rcases z with e2 | e2 <;> omega, fun z => by rcases hq with e | e <;> rcases z with e2 | e2 <;> omega⟩) (Or.inl h.2.2.2.1.1) hst) (fun q z => z.elim (fun z => Or.inl (Or.inl (by rcases z with e | e <;> omega))) (fun z => z.elim (fun z => Or.inl (Or.inl (by rcases z with e | e <;> omega))) Or.inr)) (fun hk0 r H1 hf e => ?_)
  obtain ⟨e1, s9, f9, u9, N1, N2, ⟨⟨q1, q2⟩, ⟨q3, q4⟩, q5, q6⟩, ⟨q7, q8⟩, ⟨d1, d2, d3⟩, ⟨p1, p2, p3⟩, zS, zB⟩ := e
  rw [if_pos hk0, if_pos hk0, if_pos hk0]
  have kp : ∀ q, q < H0.size → ¬ tgS tg 10 q → ¬ tgS tg 12 q → H1[q]? = H0[q]? := fun q hq hx hy => hf.2 q hq (fun z => z.elim hx (fun z => z.elim hy (fun z => by omega)))
  obtain ⟨⟨h1, h2, h3⟩, ⟨h4, h5, h6⟩, ⟨h7, h8⟩, ⟨t9, t10, t11⟩, t12, t13⟩ := h
  obtain ⟨tn, etn⟩ : ∃ tn : Nat → Nat, tn = fun q => if q < H0.size then tg q else if q = s9 then 100 + 3 * n else if q = f9 then 101 + 3 * n else if q = u9 then 102 + 3 * n else if N1 ≤ q ∧ q < N2 then 11 else if N2 ≤ q ∧ q < H1.size then 13 else 0 := ⟨_, rfl⟩
  have ol : ∀ q, q < H0.size → tn q = tg q := fun q hq => by rw [etn]; exact if_pos hq
  have n1 : tn s9 = 100 + 3 * n := by rw [etn]; dsimp only; rw [if_neg (by omega), if_pos rfl]
  have n2 : tn f9 = 101 + 3 * n := by rw [etn]; dsimp only; rw [if_neg (by omega), if_neg (fun z => d1 z.symm), if_pos rfl]
  have n3 : tn u9 = 102 + 3 * n := by rw [etn]; dsimp only; rw [if_neg (by omega), if_neg (fun z => d2 z.symm), if_neg (fun z => d3 z.symm), if_pos rfl]
  have n4 : ∀ q, N1 ≤ q → q < N2 → tn q = 11 := fun q a b => by rw [etn]; dsimp only; rw [if_neg (by omega), if_neg (by omega), if_neg (by omega), if_neg (by omega), if_pos ⟨a, b⟩]
  have n5 : ∀ q, N2 ≤ q → q < H1.size → tn q = 13 := fun q a b => by rw [etn]; dsimp only; rw [if_neg (by omega), if_neg (by omega), if_neg (by omega), if_neg (by omega), if_neg (by omega), if_pos ⟨a, b⟩]
  have n6 : ∀ q, H0.size ≤ q → tn q ≠ 0 → tgC tn q ∧ q < H1.size := fun q hq h0 => by
    have l1 := ptl p1
    have l2 := ptl p2
    have l3 := ptl p3
    by_cases c1 : q = s9
    · rw [c1]; exact ⟨Or.inr (by rw [n1]; omega), l1⟩
    · by_cases c2 : q = f9
      · rw [c2]; exact ⟨Or.inr (by rw [n2]; omega), l2⟩
      · by_cases c3 : q = u9
        · rw [c3]; exact ⟨Or.inr (by rw [n3]; omega), l3⟩
        · by_cases c4 : N1 ≤ q ∧ q < N2
          · exact ⟨Or.inl (by rw [n4 q c4.1 c4.2]; omega), by omega⟩
          · by_cases c5 : N2 ≤ q ∧ q < H1.size
            · exact ⟨Or.inl (by rw [n5 q c5.1 c5.2]; omega), c5.2⟩
            · exfalso; apply h0; rw [etn]; dsimp only; rw [if_neg (by omega), if_neg c1, if_neg c2, if_neg c3, if_neg c4, if_neg c5]
  have hl := ho.2.2
  have kq : ∀ q, q < H0.size → (∀ z, z = 10 ∨ z = 11 ∨ z = 12 ∨ z = 13 → tg q ≠ z) → H1[q]? = H0[q]? := fun q hq hx => kp q hq (fun z => by rcases z with z | z <;> exact hx _ (by omega) z) (fun z => by rcases z with z | z <;> exact hx _ (by omega) z)
  refine ⟨e1, tn, ol, n6, (fun k => if k < n then sa k else s9), (fun k => if k < n then fa k else f9), (fun k => if k < n then ta k else u9), ha, (fun k => if k < n then F k else fun _ => 0), (fun k => if k < n then U k else fun _ => 0), aS, aB, aH, rb, ri, ra, m9, mf, ?_⟩
  refine ⟨⟨ptk h1 (fun hl9 => kq _ hl9 (fun z hz => by omega)), rP_kp h2 (fun k hk7 hl => kq _ hl (fun z hz => by have := t10 k hk7; omega)), ptk h3 (fun hl9 => kq _ hl9 (fun z hz => by omega))⟩, ⟨zS.mv (fun _ _ _ => rfl) (fun q hq hx => ?_) (fun _ _ => rfl), zB.mv (fun _ _ _ => rfl) (fun q hq hx => ?_) (fun k hk => ?_), h6.mv (fun q hq hx => kq q hq (fun z hz => by rcases hx with e | e <;> omega)) (fun q hq hx => by show tn q = 14 ∨ tn q = 15; rw [ol q hq]; exact hx) (fun _ _ => rfl)⟩, ⟨fun i hi => ?_, fun j hj => ptk (h8 j hj) (fun hl9 => kq _ hl9 (fun z hz => by have := t13 j hj; omega))⟩, ⟨by rw [ol _ (ptl h1)]; exact t9, fun k hk7 => by rw [ol _ (ht _ (by have := t10 k hk7; omega))]; exact t10 k hk7, by rw [ol _ (ptl h3)]; exact t11⟩, fun i hi => ?_, fun j hj => by rw [ol _ (ptl (h8 j hj))]; exact t13 j hj⟩
  · show tn q = 10 ∨ tn q = 11
    rcases hx with hx | hx
    · rw [ol q (hltS q hx)]; exact hx
    · rw [n4 q hx.1 hx.2]; exact Or.inr rfl
  · show tn q = 12 ∨ tn q = 13
    rcases hx with hx | hx
    · rw [ol q (hltB q hx)]; exact hx
    · rw [n5 q hx hq]; exact Or.inr rfl
  · dsimp only
    rw [ordI_get hl]
    have hP := insP_le (L := L) (o := o) (n := n) (x := x1)
    by_cases c : k < insP L o n x1
    · rw [if_pos c, if_pos c, if_pos (ho.gt (show k < n by omega)).2]
    · rw [if_neg c, if_neg c]
      by_cases c2 : k = insP L o n x1
      · rw [if_pos c2, if_pos c2, if_neg (Nat.lt_irrefl n)]
      · rw [if_neg c2, if_neg c2, if_pos (ho.gt (show k - 1 < n by omega)).2]
  · by_cases c : i < n
    · obtain ⟨b1, b2, b3, b4⟩ := h7 i c
      obtain ⟨a1, a2, a3⟩ := t12 i c
      have hn' : nc (Lbu L n x1 x2 x3) i = nc L i := by unfold nc; rw [Lbu_lo (by omega) (by omega)]
      have h4 := hg.c4 c
      refine ⟨?_, ?_, ?_, fun k hk => ?_⟩
      · show pt G (if i < n then sa i else s9) (stO _ i (if i < n then fa i else f9) (if i < n then ta i else u9)) H1
        rw [if_pos c, if_pos c, if_pos c, stO_cg (fun w hw => Lbu_lo (by omega) (Or.inl (by omega)))]
        exact ptk b1 (fun hl9 => kq _ hl9 (fun z hz => by omega))
      · show pt G (if i < n then fa i else f9) (eI G 4 (if i < n then F i else fun _ => 0)) H1
        rw [if_pos c, if_pos c]
        exact ptk b2 (fun hl9 => kq _ hl9 (fun z hz => by omega))
      · show pt G (if i < n then ta i else u9) (eI G 4 (if i < n then U i else fun _ => 0)) H1
        rw [if_pos c, if_pos c]
        exact ptk b3 (fun hl9 => kq _ hl9 (fun z hz => by omega))
      · rw [hn'] at hk
        show (if i < n then F i else fun _ => 0) k = _ ∧ (if i < n then U i else fun _ => 0) k = _
        rw [if_pos c, if_pos c, Lbu_lo (by omega) (Or.inl (by omega)), Lbu_lo (by omega) (Or.inl (by omega))]
        exact b4 k hk
    · have ei : i = n := by omega
      obtain ⟨z3, z4⟩ := hz n (Nat.le_refl n)
      have hn4 : nc (Lbu L n x1 x2 x3) n = 0 := by unfold nc; rw [Lbu_lo (by omega) (by omega), z4]; rfl
      refine ⟨?_, ?_, ?_, fun k hk => ?_⟩
      · show pt G (if i < n then sa i else s9) (stO _ i (if i < n then fa i else f9) (if i < n then ta i else u9)) H1
        rw [if_neg c, if_neg c, if_neg c, ei]
        unfold stO
        rw [Lbu_0, Lbu_1, Lbu_2, Lbu_lo (by omega) (by omega), Lbu_lo (by omega) (by omega), z3, z4]
        exact p1
      · show pt G (if i < n then fa i else f9) (eI G 4 (if i < n then F i else fun _ => 0)) H1
        rw [if_neg c, if_neg c]; exact p2
      · show pt G (if i < n then ta i else u9) (eI G 4 (if i < n then U i else fun _ => 0)) H1
        rw [if_neg c, if_neg c]; exact p3
      · rw [ei, hn4] at hk; exact absurd hk (Nat.not_lt_zero _)
  · show tn (if i < n then sa i else s9) = _ ∧ tn (if i < n then fa i else f9) = _ ∧ tn (if i < n then ta i else u9) = _
    by_cases c : i < n
    · obtain ⟨b1, b2, b3, -⟩ := h7 i c
      rw [if_pos c, if_pos c, if_pos c, ol _ (ptl b1), ol _ (ptl b2), ol _ (ptl b3)]
      exact t12 i c
    · rw [if_neg c, if_neg c, if_neg c, show i = n by omega]
      exact ⟨n1, n2, n3⟩
end KWR
