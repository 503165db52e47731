-- ===== what stands through the law's body =====
abbrev rmL_law : Room := room_1
/-- what isn't there at the start -/
def aN (s : State) : Nat → Prop := fun q => s.heap.size ≤ q
def LFix (p : Program) (l : Launch) (s : State) (m : MethodId) (c : Code) (G : gT) (zA : Nat × Nat) (sb Ls : Nat) (xs : Nat → Int32) : Prop :=
  p.tables.exec = Jvm.exec ∧ c.code = code ∧ c.maxLocals = 9 ∧ s.vm.findClass RL = some m.cls ∧ (∀ w ∈ wsL_law, w.before [.ref sb].toArray s = true) ∧ KK G s ∧ KZ G zA (aN s) s s.heap ∧ NCx s ∧ va_X sb Ls xs s s.heap ∧ sb < s.heap.size ∧ l.stackTraces = false ∧ noNaN ∧ Ls ≤ 2560
theorem qk1_le (c : Bool) : k1 c ≤ 3 := by unfold k1; split <;> omega
theorem qk2_le (c d : Bool) : k2 c d ≤ 3 := by unfold k2; (repeat' split) <;> omega
theorem qk3_le (c d e : Bool) : k3 c d e ≤ 3 := by unfold k3; (repeat' split) <;> omega
theorem CW.xo {G : gT} {z0 : Nat} {tg : Nat → Nat} {xa n hn : Nat} {L T : Nat → Int32} {o : List Nat} {H : Heap} (h : CW G z0 tg xa n hn L T o H) : ∃ fx, pt G xa (.inr (3, fx)) H := by
  obtain ⟨sa, fa, ta, ha, F, U, aS, aB, aH, rb, ri, ra, m9, mf, h⟩ := h
  exact ⟨_, h.1.1⟩
theorem LJ.sW {G : gT} {z0 base xa : Nat} {b : Nat → Nat} {oA oD : Nat} {tg : Nat → Nat} {n hn nm hm : Nat} {L T Lm Tm : Nat → Int32} {o : List Nat} {ov : Nat → Int64} {od : Nat → UInt64} {H : Heap} (hJ : LJ G z0 base xa b oA oD tg n hn L T o nm hm Lm Tm ov od H) : (∀ q, (aC tg H q ∨ q = oA) → base ≤ q) ∧ (∀ q, (aC tg H q ∨ q = oD) → base ≤ q) ∧ ¬ aC tg H oA ∧ ¬ aC tg H oD := by
  obtain ⟨j1, j2, j3, ⟨j6, j7⟩, ⟨j8, j9⟩, j10⟩ := hJ
  have lA := ptl j6
  have lD := ptl j7
  refine ⟨fun q h9 => h9.elim (sgA j1 j10 q) (fun e => by rw [e]; exact (j1 oA (by rw [j8]; decide)).1), fun q h9 => h9.elim (sgA j1 j10 q) (fun e => by rw [e]; exact (j1 oD (by rw [j9]; decide)).1), fun z => ?_, fun z => ?_⟩
  · rcases z with (z | z) | z <;> omega
  · rcases z with (z | z) | z <;> omega
theorem lg_self (x : Int64) : lg_cmp x x = 0 := (lg_cmp_eq x x).mpr rfl
theorem wkL {l : Launch} {y : MethodName} {ws : List Cond} {rm : Room} {Pc : Array Value → State → Prop} {mc ms : Nat} {free : Addr → Prop} {Φ Φ' : Int64 → Heap → Prop} (h : Met l y ws rm Pc (QH (oL Φ)) mc ms free) (hΦ : ∀ r H, Φ r H → Φ' r H) : Met l y ws rm Pc (QH (oL Φ')) mc ms free := by
  intro p e ha hc hk s m args below hf happ hP hK
  obtain ⟨n, o, h1, h2, h3, ⟨r, h4, h5⟩, h6⟩ := h p e ha hc hk s m args below hf happ hP hK
  exact ⟨n, o, h1, h2, h3, ⟨r, h4, hΦ r _ h5⟩, h6⟩
theorem k_digest {l : Launch} {G : gT} {z0 : Nat} {H0 : Heap} {tg : Nat → Nat} {xa n hn : Nat} {L T : Nat → Int32} {o : List Nat} (hW : CW G z0 tg xa n hn L T o H0) (ht : ∀ q, tg q ≠ 0 → q < H0.size) (hg : OK n hn L T) (ho : IsOrd (fun s => gL L s 0) n o) : Met l yX3_digest wsX3_digest rmX3_digest (PHn G [.ref xa] H0) (QH (oL fun r H1 => fr (fun q => 2 ≤ tg q ∧ tg q ≤ 8) H0 H1 ∧ r = dig n hn L T o ∧ CW G z0 tg xa n hn L T o H1)) 0 0 (fun q => 2 ≤ tg q ∧ tg q ≤ 8) := by
  obtain ⟨sa, fa, ta, ha, F, U, aS, aB, aH, rb, ri, ra, m9, mf, h⟩ := hW
  have hD : va_D (fun q => 2 ≤ tg q ∧ tg q ≤ 8) (rW G rb ri ra) := rW_D (fun k hk => by have := h.2.2.2.1.2.1 k hk; show 2 ≤ tg _ ∧ tg _ ≤ 8; omega) h.rbi
  have hro : ∀ q, (fun q => 10 ≤ tg q) q → ¬ (fun q => 2 ≤ tg q ∧ tg q ≤ 8) q := fun q h1 h2 => by have : 10 ≤ tg q := h1; have : 2 ≤ tg q ∧ tg q ≤ 8 := h2; omega
  have hxA : ¬ (fun q => 2 ≤ tg q ∧ tg q ≤ 8) xa := fun h2 => by have : 2 ≤ tg xa ∧ tg xa ≤ 8 := h2; have := h.2.2.2.1.1; omega
  refine wkL (c_X3_digest h.1.1 h.cr hg ho h.1.2.1 hD hro hxA) (fun r H1 q => ⟨q.1, q.2.1, ?_⟩)
  obtain ⟨hf, -, ri1, ra1, hr⟩ := q
  exact ⟨sa, fa, ta, ha, F, U, aS, aB, aH, rb, ri1, ra1, m9, mf, h.re (fun q hq _ h9 => hf.2 q hq (fun z => h9 ⟨z.1, by have := z.2; omega⟩)) hr (ptk h.1.2.2 (fun hl9 => hf.2 _ hl9 (fun z => by have := h.2.2.2.1.2.2; omega))) (fun _ _ => rfl)⟩
section XLAW
variable {p : Program} {l : Launch} {e : Env} {R : Room} {s : State} {m : MethodId} {args : Array Value} {below : List Frame} {meth : Method} {c : Code} {H : Heap} {locs : List Loc} {cells slots : Nat} {Q : State → Prop} {pc : Nat} {ls : Array Slot} {rest : List Value} {cc : ByteArray} {G : gT} {A : Nat → Prop} {H0 : Heap}
theorem x_sldN (hexec : p.tables.exec = Jvm.exec) (hb : c.code = cc) {b L : Nat} {xs : Nat → Int32} (hX : va_X b L xs s H0) (hbl : b < H0.size) (hbA : ¬ A b) (hS : va_S A H0 H locs) {i : Nat} (hin : i < L) (hL : L < 2 ^ 31) (hdg : decode cc pc = .ok (.iaload, 1))
    (kk : W p l e R s m args below meth c H locs cells slots Q (F0 m (pc + 1) ls (.int (xs i) :: rest))) : W p l e R s m args below meth c H locs cells slots Q (F0 m pc ls (.int (nI i) :: .ref b :: rest)) :=
  va_sld hexec hb hX hbl hbA hS (vp_in_nI hin hL) hdg (by rw [nI_clamp (by omega)]; exact kk)
theorem x_laldN (hexec : p.tables.exec = Jvm.exec) (hb : c.code = cc) (hK : KK G s) {x : Nat} {f : Nat → Int64} (hat : pt G x (eL G 1 f) H) (hdg : decode cc pc = .ok (.laload, 1))
    (kk : W p l e R s m args below meth c H locs cells slots Q (F0 m (pc + 1) ls (.long (f 0) :: rest))) : W p l e R s m args below meth c H locs cells slots Q (F0 m pc ls (.int (nI 0) :: .ref x :: rest)) :=
  va_lald hexec hb hK (x_one hat) 0 2 rfl rfl (vp_in_nI (n := 0) (N := 1) (by omega) (by decide)) hdg (by rw [nI_clamp (by decide)]; exact kk)
theorem x_daldN (hexec : p.tables.exec = Jvm.exec) (hb : c.code = cc) (hK : KK G s) {x : Nat} {f : Nat → UInt64} (hat : pt G x (eD G 1 f) H) (hdg : decode cc pc = .ok (.daload, 1))
    (kk : W p l e R s m args below meth c H locs cells slots Q (F0 m (pc + 1) ls (.double (f 0) :: rest))) : W p l e R s m args below meth c H locs cells slots Q (F0 m pc ls (.int (nI 0) :: .ref x :: rest)) :=
  va_dald hexec hb hK (x_one hat) 0 3 rfl rfl (vp_in_nI (n := 0) (N := 1) (by omega) (by decide)) hdg (by rw [nI_clamp (by decide)]; exact kk)
end XLAW
-- ===== what each call leaves true of the state =====
section INV
variable {n hn : Nat} {L T : Nat → Int32} {o : List Nat} {x1 x2 x3 x4 : Int32}
abbrev SOK (n hn : Nat) (L T : Nat → Int32) (o : List Nat) : Prop := OK n hn L T ∧ IsOrd (fun s => gL L s 0) n o ∧ ZL L n
theorem IsOrd.cg {L L' : Nat → Int32} (h : IsOrd (fun s => gL L s 0) n o) (he : ∀ i, i < n → gL L' i 0 = gL L i 0) : IsOrd (fun s => gL L' s 0) n o := ⟨h.1.imp_of_mem (fun {a b} ha hb hab => by
  show gL L' a 0 < gL L' b 0
  rw [he a ((h.2.1 a).mp ha), he b ((h.2.1 b).mp hb)]; exact hab), h.2.1, h.2.2⟩
theorem v_build (h : SOK n hn L T o) : SOK (if k2 (inR (nI 0) (nI 999) x1 && inR (-600) (nI 600) x2 && inR (-99) (nI 99) x3) (decide (n < 12) && frB L x1 n) = 0 then n + 1 else n) hn (if k2 (inR (nI 0) (nI 999) x1 && inR (-600) (nI 600) x2 && inR (-99) (nI 99) x3) (decide (n < 12) && frB L x1 n) = 0 then Lbu L n x1 x2 x3 else L) T (if k2 (inR (nI 0) (nI 999) x1 && inR (-600) (nI 600) x2 && inR (-99) (nI 99) x3) (decide (n < 12) && frB L x1 n) = 0 then ordI L o n x1 else o) := by
  obtain ⟨hg, ho, hz⟩ := h
  by_cases c : k2 (inR (nI 0) (nI 999) x1 && inR (-600) (nI 600) x2 && inR (-99) (nI 99) x3) (decide (n < 12) && frB L x1 n) = 0
  · obtain ⟨h1, h2⟩ := k2_0 c
    simp only [Bool.and_eq_true, decide_eq_true_eq] at h1 h2
    rw [if_pos c, if_pos c, if_pos c]
    exact ⟨hg.build hz h2.1 h1.1.1 h1.1.2 h1.2 h2.2, ordI_ord ho h2.2, hz.build⟩
  · rw [if_neg c, if_neg c, if_neg c]; exact ⟨hg, ho, hz⟩
theorem v_cloud (h : SOK n hn L T o) : SOK n hn (if k3 (vS n x1) (cB x2 x3) (decide (¬ nc L x1.toNatClampNeg = 4)) = 0 then Lcl L x1.toNatClampNeg x2 x3 else L) T o := by
  obtain ⟨hg, ho, hz⟩ := h
  by_cases c : k3 (vS n x1) (cB x2 x3) (decide (¬ nc L x1.toNatClampNeg = 4)) = 0
  · obtain ⟨h1, h2, h3⟩ := k3_0 c
    rw [if_pos c]
    obtain ⟨i, hi, rfl⟩ := inR_nat (show n < 2 ^ 30 by have := hg.n; omega) h1
    rw [nI_clamp (show i < 2 ^ 31 by have := hg.n; omega)] at h3 ⊢
    have h4 := hg.c4 hi
    have h44 : nc L i < 4 := by have := of_decide_eq_true h3; omega
    exact ⟨hg.cloud hi h44 h2, ho.cg (fun j hj => by
      by_cases e : j = i
      · rw [e]; exact Lcl_lo h44 (by omega) (by omega) (by omega)
      · exact Lcl_ne h44 (by omega) e), hz.ne (fun j w hj hw => Lcl_ne h44 hw (by omega))⟩
  · rw [if_neg c]; exact ⟨hg, ho, hz⟩
theorem v_clear (h : SOK n hn L T o) : SOK n hn (if k1 (vS n x1) = 0 then upd L (13 * x1.toNatClampNeg + 4) 0 else L) T o := by
  obtain ⟨hg, ho, hz⟩ := h
  by_cases c : k1 (vS n x1) = 0
  · rw [if_pos c]
    obtain ⟨i, hi, rfl⟩ := inR_nat (show n < 2 ^ 30 by have := hg.n; omega) (k1_0 c)
    rw [nI_clamp (show i < 2 ^ 31 by have := hg.n; omega)]
    exact ⟨hg.clear hi, ho.cg (fun j hj => gL_ne (by omega) (by omega) (by omega)), hz.ne (fun j w hj hw => gL_ne (by omega) hw (by omega))⟩
  · rw [if_neg c]; exact ⟨hg, ho, hz⟩
theorem v_correct (h : SOK n hn L T o) : SOK n hn (if k2 (vS n x1) (inR (-100000) (nI 100000) x2) = 0 then upd L (13 * x1.toNatClampNeg + 3) x2 else L) T o := by
  obtain ⟨hg, ho, hz⟩ := h
  by_cases c : k2 (vS n x1) (inR (-100000) (nI 100000) x2) = 0
  · obtain ⟨h1, h2⟩ := k2_0 c
    rw [if_pos c]
    obtain ⟨i, hi, rfl⟩ := inR_nat (show n < 2 ^ 30 by have := hg.n; omega) h1
    rw [nI_clamp (show i < 2 ^ 31 by have := hg.n; omega)]
    exact ⟨hg.correct hi h2, ho.cg (fun j hj => gL_ne (by omega) (by omega) (by omega)), hz.ne (fun j w hj hw => gL_ne (by omega) hw (by omega))⟩
  · rw [if_neg c]; exact ⟨hg, ho, hz⟩
theorem v_align (h : SOK n hn L T o) : SOK n hn (if k3 (vS n x1) (isT x2) (alB L x2 (clk L x1.toNatClampNeg x2) n) = 0 then alL L x2 (clk L x1.toNatClampNeg x2) n else L) T o := by
  obtain ⟨hg, ho, hz⟩ := h
  by_cases c : k3 (vS n x1) (isT x2) (alB L x2 (clk L x1.toNatClampNeg x2) n) = 0
  · obtain ⟨h1, h2, h3⟩ := k3_0 c
    rw [if_pos c]
    refine ⟨hg.align h3, ho.cg (fun j hj => alL_ne L _ _ (by omega) (by omega) n), fun j hj => ?_⟩
    have e3 : ∀ k, k ≤ n → gL (alL L x2 (clk L x1.toNatClampNeg x2) k) j 3 = gL L j 3 := fun k hk => alL_at L x2 _ (by omega) k (by omega)
    rw [e3 n (Nat.le_refl n), alL_ne L _ _ (by omega) (by omega) n]
    exact hz j hj
  · rw [if_neg c]; exact ⟨hg, ho, hz⟩
theorem v_addHalo (h : SOK n hn L T o) : SOK n (if k2 (inR (nI 0) (nI 100000) x1 && inR (nI 0) (nI 999) x2 && inR (nI 1) (nI 99) x3 && inR (-1) (nI 1) x4) (decide (¬ hn = 16)) = 0 then hn + 1 else hn) L (if k2 (inR (nI 0) (nI 100000) x1 && inR (nI 0) (nI 999) x2 && inR (nI 1) (nI 99) x3 && inR (-1) (nI 1) x4) (decide (¬ hn = 16)) = 0 then Lad T hn x1 x2 x3 x4 else T) o := by
  obtain ⟨hg, ho, hz⟩ := h
  by_cases c : k2 (inR (nI 0) (nI 100000) x1 && inR (nI 0) (nI 999) x2 && inR (nI 1) (nI 99) x3 && inR (-1) (nI 1) x4) (decide (¬ hn = 16)) = 0
  · obtain ⟨h1, h2⟩ := k2_0 c
    simp only [Bool.and_eq_true, decide_eq_true_eq] at h1 h2
    have := hg.hn
    rw [if_pos c, if_pos c]
    exact ⟨hg.halo (by omega) h1.1.1.1 h1.1.1.2 h1.1.2 h1.2, ho, hz⟩
  · rw [if_neg c, if_neg c]; exact ⟨hg, ho, hz⟩
theorem w_wire (hg : OK n hn L T) (hk : k2 (vS n x1 && vS n x2) (inR (nI 0) (nI 1000000) x3) = 0) : clk L x2.toNatClampNeg (x3 + ab (gL L x2.toNatClampNeg 0 - gL L x1.toNatClampNeg 0) / nI 3) - clk L x1.toNatClampNeg x3 = clk L x2.toNatClampNeg (x3 + ab (gL L x1.toNatClampNeg 0 - gL L x2.toNatClampNeg 0) / nI 3) - clk L x1.toNatClampNeg x3 := by
  obtain ⟨h1, -⟩ := k2_0 hk
  rw [Bool.and_eq_true] at h1
  obtain ⟨i, hi, rfl⟩ := inR_nat (show n < 2 ^ 30 by have := hg.n; omega) h1.1
  obtain ⟨j, hj, rfl⟩ := inR_nat (show n < 2 ^ 30 by have := hg.n; omega) h1.2
  rw [nI_clamp (show i < 2 ^ 31 by have := hg.n; omega), nI_clamp (show j < 2 ^ 31 by have := hg.n; omega), wire_eq hg hi hj]
end INV
