-- ===== the law: what stands at its entry, and its walk to the loop =====
theorem KK_start {args : Array Value} {s : State} (hts : ∀ w ∈ lw_tbl, w.before args s = true) : ∃ G : gT, KK G s := by
  obtain ⟨c0, i0, k0⟩ := u_known (C := RX0) (T := TX0) (N := 4) hts lw_jX0 (hts (.instantiable RX0 4) (by decide +kernel))
  obtain ⟨c1, i1, k1⟩ := u_known (C := RX1) (T := TX1) (N := 11) hts lw_jX1 (hts (.instantiable RX1 11) (by decide +kernel))
  obtain ⟨c2, i2, k2⟩ := u_known (C := RX2) (T := TX2) (N := 8) hts lw_jX2 (hts (.instantiable RX2 8) (by decide +kernel))
  obtain ⟨c3, i3, k3⟩ := u_known (C := RX3) (T := TX3) (N := 5) hts lw_jX3 (hts (.instantiable RX3 5) (by decide +kernel))
  obtain ⟨c4, i4, k4⟩ := u_known (C := RX4) (T := TX4) (N := 11) hts lw_jX4 (hts (.instantiable RX4 11) (by decide +kernel))
  obtain ⟨c5, i5, k5⟩ := u_known (C := RJx4a65c) (T := TJx4a65c) (N := 3) hts lw_jJx4a65c (hts (.instantiable RJx4a65c 3) (by decide +kernel))
  obtain ⟨a0, A0, p0, f1, f2, f3⟩ := Cond.arrayClass_spec (hts (.arrayClass .int) (by decide +kernel))
  obtain ⟨a2, A2, p2, g1, g2, g3⟩ := Cond.arrayClass_spec (hts (.arrayClass .long) (by decide +kernel))
  obtain ⟨a3, A3, p3, h1, h2, h3⟩ := Cond.arrayClass_spec (hts (.arrayClass .double) (by decide +kernel))
  obtain ⟨comp, a1, A1, j1, -, j3, j4, j5⟩ := Cond.arrayOver_spec (hts (.arrayOver (.object cOB)) (by decide +kernel))
  refine ⟨⟨fun k => match k with
    | 0 => c0
    | 1 => c1
    | 2 => c2
    | 3 => c3
    | 4 => c4
    | _ => c5, fun k => match k with
    | 0 => i0
    | 1 => i1
    | 2 => i2
    | 3 => i3
    | 4 => i4
    | _ => i5, fun k => match k with
    | 0 => a0
    | 1 => a1
    | 2 => a2
    | _ => a3⟩, fun c q hq => ?_, fun k q hk => ?_⟩
  · match c, hq with
    | 0, hq => cases hq; exact k0
    | 1, hq => cases hq; exact k1
    | 2, hq => cases hq; exact k2
    | 3, hq => cases hq; exact k3
    | 4, hq => cases hq; exact k4
    | 5, hq => cases hq; exact k5
    | c + 6, hq => exact absurd (List.getElem?_eq_some_iff.mp hq).1 (by simp only [List.length_cons, List.length_nil]; omega)
  · match k, hk with
    | 0, hk => cases hk; exact ⟨fun n z => ⟨fun k h => (by cases h), A0, f2, p0, f3⟩, f1⟩
    | 1, hk => cases hk; exact ⟨fun n z => ⟨fun k h => (by cases h), A1, j3, comp, j4⟩, A1, comp, j3, j4, j1, j5⟩
    | 2, hk => cases hk; exact ⟨fun n z => ⟨fun k h => (by cases h), A2, g2, p2, g3⟩, g1⟩
    | 3, hk => cases hk; exact ⟨fun n z => ⟨fun k h => (by cases h), A3, h2, p3, h3⟩, h1⟩
    | k + 4, hk => exact absurd (List.getElem?_eq_some_iff.mp hk).1 (by simp only [List.length_cons, List.length_nil]; omega)
abbrev tZA : Term := .static "java/util/ArrayList" "DEFAULTCAPACITY_EMPTY_ELEMENTDATA" "[Ljava/lang/Object;"
theorem KZ_start {G : gT} {b : Nat} {s : State} (hts : ∀ w ∈ lw_tbl, w.before #[Value.ref b] s = true) (hgv : (Jvm.Cond.and given_1 narrow_1).before #[Value.ref b] s = true) : ∃ zA : Nat × Nat, KZ G zA (aN s) s s.heap ∧ NCx s := by
  have hq := flat_of_before _ hgv
  have hA : ∀ a : Nat, a < s.heap.size → ¬ aN s a := fun a h => Nat.not_le.mpr h
  have e0 := va_eqt (hq (.eq (.length tZA) (.int 0)) (by decide +kernel))
  obtain ⟨z, hz, hT⟩ := va_Tof (ty := .object cOB) (f := fun _ => .null) (N := 0) (A := aN s) (by decide) (hq (.arrayOf tZA (.object cOB)) (by decide +kernel)) e0 (fun j hj => absurd hj (Nat.not_lt_zero j)) hA
  have hZ := va_Zof (A := aN s) (hts (.laysStatic "java/util/ArrayList" "DEFAULTCAPACITY_EMPTY_ELEMENTDATA" "[Ljava/lang/Object;") (by decide +kernel)) (hts (.initialized "java/util/ArrayList") (by decide +kernel)) hz hA
  obtain ⟨mi, hM⟩ := va_Mi.of (C := "[Ljava/lang/Object;") (hq (.isRef (.mirror "[Ljava/lang/Object;")) (by decide +kernel))
  have hn : ¬ aN s z := by
    obtain ⟨_, _, _, _, _, _, _, h⟩ := hT
    exact h
  exact ⟨(z, mi), ⟨⟨hZ, hT, hn⟩,
    ⟨vx_Zqof (C := Bundle.tN) (n := "UNASSIGNED_STACK") (d := Bundle.steD) (hts (.laysStatic Bundle.tN "UNASSIGNED_STACK" Bundle.steD) (by decide +kernel)) (hts (.initialized Bundle.tN) (by decide +kernel)) (hq (.isRef (.static Bundle.tN "UNASSIGNED_STACK" Bundle.steD)) (by decide +kernel)) hA,
     vx_Zqof (C := Bundle.tN) (n := "SUPPRESSED_SENTINEL") (d := Bundle.listD) (hts (.laysStatic Bundle.tN "SUPPRESSED_SENTINEL" Bundle.listD) (by decide +kernel)) (hts (.initialized Bundle.tN) (by decide +kernel)) (hq (.isRef (.static Bundle.tN "SUPPRESSED_SENTINEL" Bundle.listD)) (by decide +kernel)) hA⟩,
    ⟨va_AO.of (hts (.arrayOver (.object cOB)) (by decide +kernel)), hM, va_Dc.of (hts (.declares ⟨"java/lang/Object", "getClass", "()Ljava/lang/Class;"⟩) (by decide +kernel))⟩,
    va_Nw.of rfl (hts (.castable RX2 cOB) (by decide +kernel)), va_Nw.of rfl (hts (.castable RX0 cOB) (by decide +kernel)),
    va_Nw.of rfl (hts (.methodLinkNest RX1 86 yX3_middle RX3) (by decide +kernel)),
    ⟨va_Nw.of rfl (hts (.castable eIX eIX) (by decide +kernel)), va_Nw.of rfl (hts (.castable eIA eIA) (by decide +kernel)), va_Nw.of rfl (hts (.castable eIS eIS) (by decide +kernel))⟩,
    va_Nw.of rfl (hts (.declares ⟨"java/lang/RuntimeException", "<init>", "()V"⟩) (by decide +kernel)), va_Nw.of rfl (hts (.declares ⟨"java/lang/Exception", "<init>", "()V"⟩) (by decide +kernel)), va_Nw.of rfl (hts (.declares ⟨"java/lang/Throwable", "<init>", "()V"⟩) (by decide +kernel))⟩,
    va_Nc.of (hq (.not (.castable eIA eIX)) (by decide +kernel)), va_Nc.of (hq (.not (.castable eIS eIX)) (by decide +kernel)), va_Nc.of (hq (.not (.castable eIS eIA)) (by decide +kernel))⟩
-- the tags of a list of cells that are apart
def tgl : va_W → List Nat → Nat → Nat
  | w :: ws, t :: ts, q => if q = w.1 then t else tgl ws ts q
  | _, _, _ => 0
theorem tgl_at {A : Nat → Prop} : ∀ (ws : va_W) (ts : List Nat) (k : Nat) (p : Nat × va_E) (t : Nat), va_D A ws → ws[k]? = some p → ts[k]? = some t → tgl ws ts p.1 = t := by
  intro ws
  induction ws with
  | nil => intro ts k p t hD h; exact absurd (List.getElem?_eq_some_iff.mp h).1 (Nat.not_lt_zero _)
  | cons w ws ih =>
    intro ts k p t hD h ht
    match ts, k, h, ht with
    | [], k, h, ht => exact absurd (List.getElem?_eq_some_iff.mp ht).1 (Nat.not_lt_zero _)
    | t0 :: ts, 0, h, ht =>
      cases h; cases ht
      exact if_pos rfl
    | t0 :: ts, k + 1, h, ht =>
      have hne : ¬ p.1 = w.1 := fun e => by
        have := hD.1 (k + 1) 0 p w h rfl e
        omega
      show (if p.1 = w.1 then t0 else tgl ws ts p.1) = t
      rw [if_neg hne]
      exact ih ts k p t ⟨fun i j a b ha hb hab => by have := hD.1 (i + 1) (j + 1) a b ha hb hab; omega, fun i a ha => hD.2 (i + 1) a ha⟩ h ht
theorem tgl_ne : ∀ (ws : va_W) (ts : List Nat) (q : Nat), tgl ws ts q ≠ 0 → ∃ (k : Nat) (p : Nat × va_E), ws[k]? = some p ∧ p.1 = q := by
  intro ws
  induction ws with
  | nil => intro ts q h; exact absurd rfl h
  | cons w ws ih =>
    intro ts q h
    match ts, h with
    | [], h => exact absurd rfl h
    | t0 :: ts, h =>
      by_cases e : q = w.1
      · exact ⟨0, w, rfl, e.symm⟩
      · have h2 : (if q = w.1 then t0 else tgl ws ts q) ≠ 0 := h
        rw [if_neg e] at h2
        obtain ⟨k, p, h3, h4⟩ := ih ts q h2
        exact ⟨k + 1, p, h3, h4⟩
section XNEW2
variable {p : Program} {l : Launch} {e : Env} {R : Room} {s : State} {m : MethodId} {args : Array Value} {below : List Frame} {meth : Method} {c : Code} {H : Heap} {locs : List Loc} {cells slots : Nat} {Q : State → Prop} {pc : Nat} {ls : Array Slot} {rest : List Value} {cc : ByteArray} {G : gT} {A : Nat → Prop} {ws : va_W} {H0 : Heap}
theorem x_newL {N : Nat} (hexec : p.tables.exec = Jvm.exec) (hb : c.code = cc) (harr : (Cond.arrayClass .long).before args s = true) (hK : KK G s) (hP : va_P (gD G) vC ws H) (hD : va_D A ws) (hS : va_S A H0 H locs) (hA : ∀ q, H0.size ≤ q → A q) (hN : N < 2 ^ 31) (hbytes : N * componentBytes .long ≤ 536870912) (hcells : cells + 1 ≤ R.cells) (hslots : slots + N ≤ R.slots) (hdg : decode cc pc = .ok (.newarray .long, 2))
    (kk : ∀ (q : Nat) (H1 : Heap), va_P (gD G) vC (ws ++ [(q, eL G N (fun _ => 0))]) H1 → va_D A (ws ++ [(q, eL G N (fun _ => 0))]) → va_S A H0 H1 locs →
      W p l e R s m args below meth c H1 locs (cells + 1) (slots + N) Q (F0 m (pc + 2) ls (.ref q :: rest))) : W p l e R s m args below meth c H locs cells slots Q (F0 m pc ls (.int (nI N) :: rest)) :=
  va_newa (atype := .long) hexec hb harr rfl hK hP hD hS hA (a0 := (N, .inr (.inl (fun _ => 0)))) (fun cA => rfl) (nI_pos hN) (nI_clamp hN) hbytes hcells hslots hdg (fun q cA H1 hK1 hP1 hD1 hS1 => by
    have h1 := (hK1.2 4 (cA, .long) rfl).2
    have h2 := (hK.2 2 (G.2.2 2, .long) rfl).2
    have e9 : G.2.2 2 = cA := Option.some.inj (h2.symm.trans h1)
    refine kk q H1 ?_ ?_ hS1
    · show va_P (gD G) vC (ws ++ [(q, .inl (G.2.2 2, N, .inr (.inl fun _ => 0)))]) H1
      rw [e9]; exact hP1
    · show va_D A (ws ++ [(q, .inl (G.2.2 2, N, .inr (.inl fun _ => 0)))])
      rw [e9]; exact hD1)
theorem x_newD {N : Nat} (hexec : p.tables.exec = Jvm.exec) (hb : c.code = cc) (harr : (Cond.arrayClass .double).before args s = true) (hK : KK G s) (hP : va_P (gD G) vC ws H) (hD : va_D A ws) (hS : va_S A H0 H locs) (hA : ∀ q, H0.size ≤ q → A q) (hN : N < 2 ^ 31) (hbytes : N * componentBytes .double ≤ 536870912) (hcells : cells + 1 ≤ R.cells) (hslots : slots + N ≤ R.slots) (hdg : decode cc pc = .ok (.newarray .double, 2))
    (kk : ∀ (q : Nat) (H1 : Heap), va_P (gD G) vC (ws ++ [(q, eD G N (fun _ => 0))]) H1 → va_D A (ws ++ [(q, eD G N (fun _ => 0))]) → va_S A H0 H1 locs →
      W p l e R s m args below meth c H1 locs (cells + 1) (slots + N) Q (F0 m (pc + 2) ls (.ref q :: rest))) : W p l e R s m args below meth c H locs cells slots Q (F0 m pc ls (.int (nI N) :: rest)) :=
  va_newa (atype := .double) hexec hb harr rfl hK hP hD hS hA (a0 := (N, .inr (.inr (.inr (.inl (fun _ => 0)))))) (fun cA => rfl) (nI_pos hN) (nI_clamp hN) hbytes hcells hslots hdg (fun q cA H1 hK1 hP1 hD1 hS1 => by
    have h1 := (hK1.2 4 (cA, .double) rfl).2
    have h2 := (hK.2 3 (G.2.2 3, .double) rfl).2
    have e9 : G.2.2 3 = cA := Option.some.inj (h2.symm.trans h1)
    refine kk q H1 ?_ ?_ hS1
    · show va_P (gD G) vC (ws ++ [(q, .inl (G.2.2 3, N, .inr (.inr (.inr (.inl fun _ => 0)))))]) H1
      rw [e9]; exact hP1
    · show va_D A (ws ++ [(q, .inl (G.2.2 3, N, .inr (.inr (.inr (.inl fun _ => 0)))))])
      rw [e9]; exact hD1)
end XNEW2
/-- the class's cells at its birth -/
abbrev W3s (G : gT) (z a0 l1 l2 l3 m9 : Nat) (rb : Nat → Nat) : va_W := (a0, .inr (3, [.ref l1, .ref l2, .ref l3, .ref (rb 0), .ref m9])) :: (l1, alO 0 z 0) :: (l2, alO 0 z 0) :: (l3, alO 0 z 0) :: (m9, eI G 16 (fun _ => 0)) :: rW G rb (fun _ => 0) (fun _ _ => 0)
/-- all cells that the law makes before its loop -/
abbrev WAs (G : gT) (z a0 l1 l2 l3 m9 : Nat) (rb b : Nat → Nat) (oA oD : Nat) : va_W := mW G b (fun _ => 0) (fun _ _ => 0) ++ W3s G z a0 l1 l2 l3 m9 rb ++ [(oA, eL G 1 (fun _ => 0))] ++ [(oD, eD G 1 (fun _ => 0))]
abbrev tgs : List Nat := [20, 21, 22, 23, 24, 25, 1, 10, 12, 14, 9, 2, 3, 4, 5, 6, 7, 8, 30, 31]
theorem SOK0 : SOK 0 0 (fun _ => 0) (fun _ => 0) [] := ⟨⟨⟨by decide, by decide⟩, fun i h => absurd h (Nat.not_lt_zero i), fun i h => absurd h (Nat.not_lt_zero i), fun i j h => absurd h (Nat.not_lt_zero i)⟩, ⟨List.Pairwise.nil, fun i => ⟨fun h => absurd h List.not_mem_nil, fun h => absurd h (Nat.not_lt_zero i)⟩, rfl⟩, fun i _ => ⟨rfl, rfl⟩⟩
set_option maxHeartbeats 4000000 in
set_option maxRecDepth 100000 in
theorem LI_start {G : gT} {z a0 l1 l2 l3 m9 : Nat} {rb b : Nat → Nat} {oA oD : Nat} {s : State} {H : Heap} (hs : s.heap.size ≤ H.size) (hP : va_P (gD G) vC (WAs G z a0 l1 l2 l3 m9 rb b oA oD) H) (hD : va_D (aN s) (WAs G z a0 l1 l2 l3 m9 rb b oA oD)) : LI G z s.heap.size a0 b oA oD H := by
  have T : ∀ (k : Nat) (p : Nat × va_E) (t : Nat), (WAs G z a0 l1 l2 l3 m9 rb b oA oD)[k]? = some p → tgs[k]? = some t → tgl (WAs G z a0 l1 l2 l3 m9 rb b oA oD) tgs p.1 = t := fun k p t h ht => tgl_at _ _ k p t hD h ht
  have tB : ∀ k, k < 6 → tgl (WAs G z a0 l1 l2 l3 m9 rb b oA oD) tgs (b k) = 20 + k := fun k hk => by
    match k, hk with
    | 0, _ => exact T 0 _ 20 rfl rfl
    | 1, _ => exact T 1 _ 21 rfl rfl
    | 2, _ => exact T 2 _ 22 rfl rfl
    | 3, _ => exact T 3 _ 23 rfl rfl
    | 4, _ => exact T 4 _ 24 rfl rfl
    | 5, _ => exact T 5 _ 25 rfl rfl
  have tR : ∀ k, k < 7 → tgl (WAs G z a0 l1 l2 l3 m9 rb b oA oD) tgs (rb k) = 2 + k := fun k hk => by
    match k, hk with
    | 0, _ => exact T 11 _ 2 rfl rfl
    | 1, _ => exact T 12 _ 3 rfl rfl
    | 2, _ => exact T 13 _ 4 rfl rfl
    | 3, _ => exact T 14 _ 5 rfl rfl
    | 4, _ => exact T 15 _ 6 rfl rfl
    | 5, _ => exact T 16 _ 7 rfl rfl
    | 6, _ => exact T 17 _ 8 rfl rfl
  have pM : mP G b (fun _ => 0) (fun _ _ => 0) H := hP.sub [0, 1, 2, 3, 4, 5] rfl
  have pR : rP G rb (fun _ => 0) (fun _ _ => 0) H := hP.sub [11, 12, 13, 14, 15, 16, 17] rfl
  refine ⟨tgl (WAs G z a0 l1 l2 l3 m9 rb b oA oD) tgs, 0, 0, fun _ => 0, fun _ => 0, [], fun _ => 0, fun _ => 0, ⟨fun q hq => ?_, ?_, ⟨⟨_, _, pM, rfl, rfl, rfl, rfl⟩, tB⟩, ⟨hP 18 _ rfl, hP 19 _ rfl⟩, ⟨T 18 _ 30 rfl rfl, T 19 _ 31 rfl rfl⟩, hs⟩, SOK0⟩
  · obtain ⟨k, p, h1, h2⟩ := tgl_ne _ _ q hq
    rw [← h2]
    exact ⟨hD.2 k p h1, (hP k p h1).lt⟩
  · exact ⟨fun _ => 0, fun _ => 0, fun _ => 0, fun _ => 0, fun _ _ => 0, fun _ _ => 0, l1, l2, l3, rb, fun _ => 0, fun _ _ => 0, m9, fun _ => 0, ⟨hP 6 _ rfl, pR, hP 10 _ rfl⟩, ⟨⟨0, z, 0, fun _ => none, hP 7 _ rfl, Or.inl (T 7 _ 10 rfl rfl), Or.inl ⟨rfl, rfl⟩⟩, ⟨0, z, 0, fun _ => none, hP 8 _ rfl, Or.inl (T 8 _ 12 rfl rfl), Or.inl ⟨rfl, rfl⟩⟩, ⟨0, z, 0, fun _ => none, hP 9 _ rfl, Or.inl (T 9 _ 14 rfl rfl), Or.inl ⟨rfl, rfl⟩⟩⟩, ⟨fun i h => absurd h (Nat.not_lt_zero i), fun i h => absurd h (Nat.not_lt_zero i)⟩, ⟨T 6 _ 1 rfl rfl, tR, T 10 _ 9 rfl rfl⟩, fun i h => absurd h (Nat.not_lt_zero i), fun i h => absurd h (Nat.not_lt_zero i)⟩
set_option maxHeartbeats 4000000 in
set_option maxRecDepth 100000 in
theorem law_start {p : Program} {e : Env} {s : State} {m : MethodId} {below : List Frame} {meth : Method} {c : Code} {l : Launch} (hst : l.stackTraces = false) {b L : Nat} {xs : Nat → Int32} (hL : L ≤ 2560) (C0 : lw_At p s m meth c b L xs) (ls : Array Slot) (hl : lv_has ls 9 [(0, .ref b)]) : W p l e rmL_law s m [Value.ref b].toArray below meth c s.heap [] 0 0 (lw_Z below #[Value.ref b] s) (F0 m 0 ls []) := by
  obtain ⟨hx, hb, hr, hml, hown, hts0, hX, hbl, hlk, hgv⟩ := C0
  obtain ⟨G, hK⟩ := KK_start hts0
  obtain ⟨zA, hZ, hN⟩ := KZ_start (G := G) hts0 hgv
  have hts : ∀ w ∈ wsL_law, w.before [Value.ref b].toArray s = true := fun w hw => hts0 w (wsL_law_in w hw)
  have hC : CallFix p m c cL_law 9 s [.ref b].toArray wsL_law RL := ⟨hx, hb, hml, hown, hts⟩
  have hF : LFix p l s m c G zA b L xs := ⟨hx, hb, hml, hown, hts, hK, hZ, hN, hX, hbl, hst, noNaN_holds, hL⟩
  have k_cl8 := hts0 (.classLink RL 8 RX3) (by decide +kernel)
  have k_mkX3 := hts0 (.instantiable RX3 5) (by decide +kernel)
  have k_nX3 := hts0 (.initialized RX3) (by decide +kernel)
  have k_m77 := hts0 (.methodLink RL 77 yX3_init) (by decide +kernel)
  have k_iX3 := hts0 (.instanceMethod yX3_init) (by decide +kernel)
  have k_cl78 := hts0 (.classLink RL 78 RX4) (by decide +kernel)
  have k_mkX4 := hts0 (.instantiable RX4 11) (by decide +kernel)
  have k_nX4 := hts0 (.initialized RX4) (by decide +kernel)
  have k_m80 := hts0 (.methodLink RL 80 yX4_init) (by decide +kernel)
  have k_iX4 := hts0 (.instanceMethod yX4_init) (by decide +kernel)
  have k_arL := hts0 (.arrayClass .long) (by decide +kernel)
  have k_arD := hts0 (.arrayClass .double) (by decide +kernel)
  have hS : va_S (aN s) s.heap s.heap [] := va_S.rf
  have hP : va_P (gD G) vC [] s.heap := fun k q hk => absurd (List.getElem?_eq_some_iff.mp hk).1 (Nat.not_lt_zero _)
  have hD : va_D (aN s) [] := ⟨fun i j p q hp => absurd (List.getElem?_eq_some_iff.mp hp).1 (Nat.not_lt_zero _), fun k q hk => absurd (List.getElem?_eq_some_iff.mp hk).1 (Nat.not_lt_zero _)⟩
  have hA : ∀ q, s.heap.size ≤ q → aN s q := fun _ h => h
  refine va_new (D := gD G) (cl := vC) (ci := 3) (fs := [.null, .null, .null, .null, .null]) (C := RX3) (T := TX3) (N := 5) hx hb hts0 lw_jX3 tyX3 tyX3_ok hown k_cl8 k_mkX3 k_nX3 hK hP hD hS hA rfl (fun j hj => by rcases (show j = 0 ∨ j = 1 ∨ j = 2 ∨ j = 3 ∨ j = 4 by omega) with rfl | rfl | rfl | rfl | rfl <;> rfl) (Nat.le_of_ble_eq_true rfl) (Nat.le_of_ble_eq_true rfl) dL_law_0 (fun a0 H hP hD hS => ?_)
  have hP : va_P (gD G) vC [(a0, .inr (3, [.null, .null, .null, .null, .null]))] H := hP
  have hD : va_D (aN s) [(a0, .inr (3, [.null, .null, .null, .null, .null]))] := hD
  refine lv_dup hx hb dL_law_3 rfl ?_
  have hA9 : ∀ q, H.size ≤ q → aN s q := fun q h9 => Nat.le_trans hS.1 h9
  have hsub := nset_A hD hA9
  refine x_runv (va_runI (As := []) (rest := [.ref a0]) hC (c_X3_init (A := nset [(a0, .inr (3, [.null, .null, .null, .null, .null]))] H) hP (nset_D hD) (fun q h9 => Or.inr h9)) (cwI 0 hts gL_law_X3_init rfl rfl rfl k_nX3 k_m77 k_iX3 rfl qdX3_init ⟨Nat.le_of_ble_eq_true rfl, Nat.le_of_ble_eq_true rfl⟩) (x_preSz hK ((hZ.at hS).narrow hsub)) rfl rfl hl.1 rfl (lv_room (Nat.le_of_ble_eq_true rfl)) dL_law_4 ⟨Nat.le_of_ble_eq_true rfl, Nat.le_of_ble_eq_true rfl⟩) hS hsub (fun H1 locs hfr hΦ hS => ?_)
  obtain ⟨l1, l2, l3, m9, rb, hP3, hD3⟩ := hΦ
  have hP : va_P (gD G) vC (W3s G zA.1 a0 l1 l2 l3 m9 rb) H1 := hP3
  have hD : va_D (aN s) (W3s G zA.1 a0 l1 l2 l3 m9 rb) := ⟨hD3.1, fun k q hk => hsub _ (hD3.2 k q hk)⟩
  refine lv_astore_n (lv' := [(1, .ref a0), (0, .ref b)]) hx hb dL_law_7 rfl hl (by decide) rfl (fun ls hl => ?_)
  refine va_new (D := gD G) (cl := vC) (ci := 4) (fs := [.int 0, .int 0, .null, .int 0, .null, .null, .null, .int 0, .int 0, .int 0, .null]) (C := RX4) (T := TX4) (N := 11) hx hb hts0 lw_jX4 tyX4 tyX4_ok hown k_cl78 k_mkX4 k_nX4 hK hP hD hS hA rfl (fun j hj => by rcases (show j = 0 ∨ j = 1 ∨ j = 2 ∨ j = 3 ∨ j = 4 ∨ j = 5 ∨ j = 6 ∨ j = 7 ∨ j = 8 ∨ j = 9 ∨ j = 10 by omega) with rfl | rfl | rfl | rfl | rfl | rfl | rfl | rfl | rfl | rfl | rfl <;> rfl) (Nat.le_of_ble_eq_true rfl) (Nat.le_of_ble_eq_true rfl) dL_law_8 (fun a4 H hP hD hS => ?_)
  refine lv_dup hx hb dL_law_11 rfl ?_
  have hP : va_P (gD G) vC ([(a4, .inr (4, [.int 0, .int 0, .null, .int 0, .null, .null, .null, .int 0, .int 0, .int 0, .null]))] ++ W3s G zA.1 a0 l1 l2 l3 m9 rb) H := hP.sub [12, 0, 1, 2, 3, 4, 5, 6, 7, 8, 9, 10, 11] rfl
  have hD : va_D (aN s) ([(a4, .inr (4, [.int 0, .int 0, .null, .int 0, .null, .null, .null, .int 0, .int 0, .int 0, .null]))] ++ W3s G zA.1 a0 l1 l2 l3 m9 rb) := hD.sub [12, 0, 1, 2, 3, 4, 5, 6, 7, 8, 9, 10, 11] (by decide) rfl
  have hA9 : ∀ q, H.size ≤ q → aN s q := fun q h9 => Nat.le_trans hS.1 h9
  have hsub := nset_A (va_Dl (ws := [(a4, .inr (4, [.int 0, .int 0, .null, .int 0, .null, .null, .null, .int 0, .int 0, .int 0, .null]))]) (X := W3s G zA.1 a0 l1 l2 l3 m9 rb) hD) hA9
  refine x_runv (va_runI (As := []) (rest := [.ref a4]) hC (c_X4_init (A := nset [(a4, .inr (4, [.int 0, .int 0, .null, .int 0, .null, .null, .null, .int 0, .int 0, .int 0, .null]))] H) (va_Pl (ws := [(a4, .inr (4, [.int 0, .int 0, .null, .int 0, .null, .null, .null, .int 0, .int 0, .int 0, .null]))]) (X := W3s G zA.1 a0 l1 l2 l3 m9 rb) hP) (nset_D (va_Dl (ws := [(a4, .inr (4, [.int 0, .int 0, .null, .int 0, .null, .null, .null, .int 0, .int 0, .int 0, .null]))]) (X := W3s G zA.1 a0 l1 l2 l3 m9 rb) hD)) (fun q h9 => Or.inr h9)) (cwI 0 hts gL_law_X4_init rfl rfl rfl k_nX4 k_m80 k_iX4 rfl qdX4_init ⟨Nat.le_of_ble_eq_true rfl, Nat.le_of_ble_eq_true rfl⟩) (x_preS hK) rfl rfl hl.1 rfl (lv_room (Nat.le_of_ble_eq_true rfl)) dL_law_12 ⟨Nat.le_of_ble_eq_true rfl, Nat.le_of_ble_eq_true rfl⟩) hS hsub (fun H1 locs hfr hΦ hS => ?_)
  obtain ⟨b4, eb4, hP9, hD9⟩ := hΦ
  have hP7 := ext_call (X := W3s G zA.1 a0 l1 l2 l3 m9 rb) hP hD (nset_fr hfr) hP9
  have hD7 := nset_app (X := W3s G zA.1 a0 l1 l2 l3 m9 rb) hP hD hA9 hD9
  subst eb4
  refine lv_astore_n (lv' := [(2, .ref (b4 0)), (1, .ref a0), (0, .ref b)]) hx hb dL_law_15 rfl hl (by decide) rfl (fun ls hl => ?_)
  refine lv_iconst (v := nI 1) hx hb dL_law_16 (by decide +kernel) ?_
  refine x_newL hx hb k_arL hK hP7 hD7 hS hA (by decide) (Nat.le_of_ble_eq_true rfl) (Nat.le_of_ble_eq_true rfl) (Nat.le_of_ble_eq_true rfl) dL_law_17 (fun oA H hP hD hS => ?_)
  refine lv_astore_n (lv' := [(3, .ref oA), (2, .ref (b4 0)), (1, .ref a0), (0, .ref b)]) hx hb dL_law_19 rfl hl (by decide) rfl (fun ls hl => ?_)
  refine lv_iconst (v := nI 1) hx hb dL_law_20 (by decide +kernel) ?_
  refine x_newD hx hb k_arD hK hP hD hS hA (by decide) (Nat.le_of_ble_eq_true rfl) (Nat.le_of_ble_eq_true rfl) (Nat.le_of_ble_eq_true rfl) dL_law_21 (fun oD H hP hD hS => ?_)
  refine lv_astore (lv' := [(4, .ref oD), (3, .ref oA), (2, .ref (b4 0)), (1, .ref a0), (0, .ref b)]) hx hb dL_law_23 hl (by decide) rfl (fun ls hl => ?_)
  refine lv_iconst (v := nI 0) hx hb dL_law_25 (by decide +kernel) ?_
  refine lv_istore (lv' := [(5, .int (nI 0)), (4, .ref oD), (3, .ref oA), (2, .ref (b4 0)), (1, .ref a0), (0, .ref b)]) hx hb dL_law_26 hl (by decide) rfl (fun ls hl => ?_)
  have hI : LI G zA.1 s.heap.size a0 b4 oA oD H := LI_start hS.1 hP hD
  refine law_loop hF (fun H locs ls hS hl => ?_) (L + 1) 0 H _ ls (by omega) (Nat.zero_le _) hI hS (lv_sub hl [5, 4, 3, 2, 1, 0] rfl)
  refine va_forget (fun q h => hS.2.2 q h) ?_
  refine lv_iconst (v := nI 1) hx hb dL_law_1461 (by decide +kernel) ?_
  exact lw_ret (d0 := s.drawn) (Drawn.sameBut.refl s.drawn lw_cs) hx hb hr hlk dL_law_1462
theorem whole_start {p : Program} {e : Env} {s : State} {m : MethodId} {below : List Frame} {meth : Method} {c : Code} (l : Launch) (hflags : l.flags = flags0) {b L : Nat} {xs : Nat → Int32} (hL : L ≤ 2560) (C0 : lw_At p s m meth c b L xs) : W p l e room_1 s m #[Value.ref b] below meth c s.heap [] 0 0 (lw_Z below #[Value.ref b] s) (entryFrame m ([Value.ref b] : List Value).toArray 9) := by
  have hst : l.stackTraces = false := by
    unfold Launch.stackTraces
    rw [hflags]
    decide +kernel
  rw [lg_entry_eq]
  exact law_start hst hL C0 _ (lv_entry [.ref b] (n := 9) (Nat.le_of_ble_eq_true rfl))
