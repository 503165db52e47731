-- ===== the law's invariant =====
def MW (G : gT) (tg : Nat → Nat) (b : Nat → Nat) (n hn : Nat) (L T : Nat → Int32) (H : Heap) : Prop := (∃ (mi : Nat → Int32) (ma : Nat → Nat → Int32), mP G b mi ma H ∧ mS n hn L T mi ma) ∧ ∀ k, k < 6 → tg (b k) = 20 + k
/-- the class in the state n .. o, the reference in the state nm .. Tm, the rows of answers hold ov, od -/
def LJ (G : gT) (z0 base xa : Nat) (b : Nat → Nat) (oA oD : Nat) (tg : Nat → Nat) (n hn : Nat) (L T : Nat → Int32) (o : List Nat) (nm hm : Nat) (Lm Tm : Nat → Int32) (ov : Nat → Int64) (od : Nat → UInt64) (H : Heap) : Prop :=
  (∀ q, tg q ≠ 0 → base ≤ q ∧ q < H.size) ∧ CW G z0 tg xa n hn L T o H ∧ MW G tg b nm hm Lm Tm H ∧ (pt G oA (eL G 1 ov) H ∧ pt G oD (eD G 1 od) H) ∧ (tg oA = 30 ∧ tg oD = 31) ∧ base ≤ H.size
def LI (G : gT) (z0 base xa : Nat) (b : Nat → Nat) (oA oD : Nat) (H : Heap) : Prop :=
  ∃ (tg : Nat → Nat) (n hn : Nat) (L T : Nat → Int32) (o : List Nat) (ov : Nat → Int64) (od : Nat → UInt64), LJ G z0 base xa b oA oD tg n hn L T o n hn L T ov od H ∧ (OK n hn L T ∧ IsOrd (fun s => gL L s 0) n o ∧ ZL L n)
theorem mW_at {G : gT} {b : Nat → Nat} {mi : Nat → Int32} {ma : Nat → Nat → Int32} {k : Nat} {q : Nat × va_E} (h : (mW G b mi ma)[k]? = some q) : k < 6 ∧ q.1 = b k := by
  match k, h with
  | 0, h => cases h; exact ⟨by omega, rfl⟩
  | 1, h => cases h; exact ⟨by omega, rfl⟩
  | 2, h => cases h; exact ⟨by omega, rfl⟩
  | 3, h => cases h; exact ⟨by omega, rfl⟩
  | 4, h => cases h; exact ⟨by omega, rfl⟩
  | 5, h => cases h; exact ⟨by omega, rfl⟩
  | k + 6, h => exact absurd (List.getElem?_eq_some_iff.mp h).1 (by simp only [List.length_cons, List.length_nil]; omega)
theorem mP_kp {G : gT} {b : Nat → Nat} {mi : Nat → Int32} {ma : Nat → Nat → Int32} {H H1 : Heap} (h : mP G b mi ma H) (hk : ∀ k, k < 6 → b k < H.size → H1[b k]? = H[b k]?) : mP G b mi ma H1 := fun k q hq => by
  obtain ⟨h1, h2⟩ := mW_at hq
  have ha := h k q hq
  exact va_at.kept ha (by rw [h2]; exact hk k h1 (by rw [← h2]; exact ha.lt))
theorem mP_lt {G : gT} {b : Nat → Nat} {mi : Nat → Int32} {ma : Nat → Nat → Int32} {H : Heap} (h : mP G b mi ma H) : ∀ k, k < 6 → b k < H.size := fun k hk => by
  match k, hk with
  | 0, _ => exact ptl (h 0 _ rfl)
  | 1, _ => exact ptl (h 1 _ rfl)
  | 2, _ => exact ptl (h 2 _ rfl)
  | 3, _ => exact ptl (h 3 _ rfl)
  | 4, _ => exact ptl (h 4 _ rfl)
  | 5, _ => exact ptl (h 5 _ rfl)
theorem mW_D {A : Nat → Prop} {G : gT} {tg : Nat → Nat} {b : Nat → Nat} {mi : Nat → Int32} {ma : Nat → Nat → Int32} (ht : ∀ k, k < 6 → tg (b k) = 20 + k) (hA : ∀ q, tgM tg q → A q) : va_D A (mW G b mi ma) := ⟨fun i j p q hp hq hpq => by
  obtain ⟨h1, h2⟩ := mW_at hp
  obtain ⟨h3, h4⟩ := mW_at hq
  have e : b i = b j := by rw [← h2, ← h4]; exact hpq
  have g1 := ht i h1
  have g2 := ht j h3
  rw [e] at g1
  omega, fun k q hk => by
  obtain ⟨h1, h2⟩ := mW_at hk
  rw [h2]
  exact hA _ (by have := ht k h1; omega)⟩
section AFT
variable {G : gT} {z0 base xa : Nat} {b : Nat → Nat} {oA oD : Nat} {tg : Nat → Nat} {n hn n1 hn1 nm hm n2 hn2 : Nat} {L T L1 T1 Lm Tm L2 T2 : Nat → Int32} {o o1 : List Nat} {ov : Nat → Int64} {od : Nat → UInt64} {H0 H1 : Heap} {K : Nat}
/-- behind a wrapper: the class in its new state, the reference in the old one -/
theorem afterW {Φ : Int32 → Heap → Prop} {val r : Int32} (hJ : LJ G z0 base xa b oA oD tg n hn L T o n hn L T ov od H0) (hq : wrQ G (aC tg H0) oA ov H0 K Φ r H1) (hΦ : ∀ v H2, Φ v H2 → v = val ∧ CP G z0 tg xa H0 n1 hn1 L1 T1 o1 H2) (hne : K ≠ 0 → n1 = n ∧ hn1 = hn ∧ L1 = L ∧ T1 = T ∧ o1 = o) : r = nI K ∧ ∃ (tn : Nat → Nat) (ow : Nat → Int64), LJ G z0 base xa b oA oD tn n1 hn1 L1 T1 o1 n hn L T ow od H1 ∧ (K = 0 → ow 0 = val.toInt64) := by
  obtain ⟨j1, j2, ⟨⟨mi, ma, j3, j4⟩, j5⟩, ⟨j6, j7⟩, ⟨j8, j9⟩, j10⟩ := hJ
  obtain ⟨hr, hc⟩ := hq
  refine ⟨hr, ?_⟩
  rcases hc with ⟨h0, v, H2, hf, hv, ho, hp⟩ | ⟨h0, hf⟩
  · obtain ⟨ev, tn, t1, t2, cw⟩ := hΦ v H2 hv
    have hb1 := mP_lt j3
    have lA := ptl j6
    have lD := ptl j7
    have k2 : ∀ q, q < H0.size → ¬ tgC tg q → H2[q]? = H0[q]? := fun q hq hx => hf.2 q hq (fun z => z.elim hx (fun z => by omega))
    have k1 : ∀ q, q < H2.size → q ≠ oA → H1[q]? = H2[q]? := fun q hq hx => ho.2 q hq hx
    have s1 := hf.1
    have s2 := ho.1
    have nC : ∀ q, 16 ≤ tg q → tg q < 40 → ¬ tgC tg q := fun q a c z => by rcases z with z | z <;> omega
    have eA : tn oA = 30 := by rw [t1 oA lA]; exact j8
    refine ⟨tn, vp_updL ov 0 v.toInt64, ⟨fun q hq => ?_, cw.mv (fun q hq hc => k1 q hq (fun z => by rw [z] at hc; rcases hc with hc | hc <;> omega)) (fun _ _ => rfl), ⟨⟨mi, ma, mP_kp j3 (fun k hk hl => (k1 _ (by omega) (fun z => by have := j5 k hk; rw [z] at this; omega)).trans (k2 _ hl (nC _ (by have := j5 k hk; omega) (by have := j5 k hk; omega)))), j4⟩, fun k hk => by rw [t1 _ (hb1 k hk)]; exact j5 k hk⟩, ⟨hp, ptk (ptk j7 (fun _ => k2 _ lD (nC _ (by omega) (by omega)))) (fun _ => k1 _ (by omega) (fun z => by rw [z] at j9; omega))⟩, ⟨eA, by rw [t1 _ lD]; exact j9⟩, by omega⟩, fun _ => by rw [pk_uLs, ev]⟩
    rcases Nat.lt_or_ge q H0.size with c | c
    · rw [t1 q c] at hq; have := j1 q hq; omega
    · have := (t2 q c hq).2; omega
  · obtain ⟨e1, e2, e3, e4, e5⟩ := hne h0
    subst e1 e2 e3 e4 e5
    have k1 : ∀ q, q < H0.size → H1[q]? = H0[q]? := fun q hq => hf.2 q hq (fun z => z)
    have s1 := hf.1
    exact ⟨tg, ov, ⟨fun q hq => by have := j1 q hq; omega, j2.mv (fun q hq _ => k1 q hq) (fun _ _ => rfl), ⟨⟨mi, ma, mP_kp j3 (fun k _ hl => k1 _ hl), j4⟩, j5⟩, ⟨ptk j6 (fun hl9 => k1 _ hl9), ptk j7 (fun hl9 => k1 _ hl9)⟩, ⟨j8, j9⟩, by omega⟩, fun z => absurd z h0⟩
theorem afterD {Φ : UInt64 → Heap → Prop} {val : UInt64} {r : Int32} (hJ : LJ G z0 base xa b oA oD tg n hn L T o n hn L T ov od H0) (hq : wrD G (aC tg H0) oD od H0 K Φ r H1) (hΦ : ∀ v H2, Φ v H2 → v = val ∧ CP G z0 tg xa H0 n1 hn1 L1 T1 o1 H2) (hne : K ≠ 0 → n1 = n ∧ hn1 = hn ∧ L1 = L ∧ T1 = T ∧ o1 = o) : r = nI K ∧ ∃ (tn : Nat → Nat) (ow : Nat → UInt64), LJ G z0 base xa b oA oD tn n1 hn1 L1 T1 o1 n hn L T ov ow H1 ∧ (K = 0 → ow 0 = val) := by
  obtain ⟨j1, j2, ⟨⟨mi, ma, j3, j4⟩, j5⟩, ⟨j6, j7⟩, ⟨j8, j9⟩, j10⟩ := hJ
  obtain ⟨hr, hc⟩ := hq
  refine ⟨hr, ?_⟩
  rcases hc with ⟨h0, v, H2, hf, hv, ho, hp⟩ | ⟨h0, hf⟩
  · obtain ⟨ev, tn, t1, t2, cw⟩ := hΦ v H2 hv
    have hb1 := mP_lt j3
    have lA := ptl j6
    have lD := ptl j7
    have k2 : ∀ q, q < H0.size → ¬ tgC tg q → H2[q]? = H0[q]? := fun q hq hx => hf.2 q hq (fun z => z.elim hx (fun z => by omega))
    have k1 : ∀ q, q < H2.size → q ≠ oD → H1[q]? = H2[q]? := fun q hq hx => ho.2 q hq hx
    have s1 := hf.1
    have s2 := ho.1
    have nC : ∀ q, 16 ≤ tg q → tg q < 40 → ¬ tgC tg q := fun q a c z => by rcases z with z | z <;> omega
    have eD9 : tn oD = 31 := by rw [t1 oD lD]; exact j9
    refine ⟨tn, vf_upd od 0 v, ⟨fun q hq => ?_, cw.mv (fun q hq hc => k1 q hq (fun z => by rw [z] at hc; rcases hc with hc | hc <;> omega)) (fun _ _ => rfl), ⟨⟨mi, ma, mP_kp j3 (fun k hk hl => (k1 _ (by omega) (fun z => by have := j5 k hk; rw [z] at this; omega)).trans (k2 _ hl (nC _ (by have := j5 k hk; omega) (by have := j5 k hk; omega)))), j4⟩, fun k hk => by rw [t1 _ (hb1 k hk)]; exact j5 k hk⟩, ⟨ptk (ptk j6 (fun _ => k2 _ lA (nC _ (by omega) (by omega)))) (fun _ => k1 _ (by omega) (fun z => by rw [z] at j8; omega)), hp⟩, ⟨by rw [t1 _ lA]; exact j8, eD9⟩, by omega⟩, fun _ => by rw [← ev]; simp [vf_upd]⟩
    rcases Nat.lt_or_ge q H0.size with c | c
    · rw [t1 q c] at hq; have := j1 q hq; omega
    · have := (t2 q c hq).2; omega
  · obtain ⟨e1, e2, e3, e4, e5⟩ := hne h0
    subst e1 e2 e3 e4 e5
    have k1 : ∀ q, q < H0.size → H1[q]? = H0[q]? := fun q hq => hf.2 q hq (fun z => z)
    have s1 := hf.1
    exact ⟨tg, od, ⟨fun q hq => by have := j1 q hq; omega, j2.mv (fun q hq _ => k1 q hq) (fun _ _ => rfl), ⟨⟨mi, ma, mP_kp j3 (fun k _ hl => k1 _ hl), j4⟩, j5⟩, ⟨ptk j6 (fun hl9 => k1 _ hl9), ptk j7 (fun hl9 => k1 _ hl9)⟩, ⟨j8, j9⟩, by omega⟩, fun z => absurd z h0⟩
/-- what stands while the reference is called: its cells, and what isn't there yet -/
abbrev aM (tg : Nat → Nat) (H : Heap) : Nat → Prop := fun q => tgM tg q ∨ H.size ≤ q
theorem aM_D {mi : Nat → Int32} {ma : Nat → Nat → Int32} (ht : ∀ k, k < 6 → tg (b k) = 20 + k) : va_D (aM tg H0) (mW G b mi ma) := mW_D ht (fun q hq => Or.inl hq)
theorem afterM0 (hJ : LJ G z0 base xa b oA oD tg n1 hn1 L1 T1 o1 n hn L T ov od H0) (hf : fr (aM tg H0) H0 H1) {mi : Nat → Int32} {ma : Nat → Nat → Int32} (hP : mP G b mi ma H1) (hS : mS n2 hn2 L2 T2 mi ma) : LJ G z0 base xa b oA oD tg n1 hn1 L1 T1 o1 n2 hn2 L2 T2 ov od H1 := by
  obtain ⟨j1, j2, ⟨-, j5⟩, ⟨j6, j7⟩, ⟨j8, j9⟩, j10⟩ := hJ
  have s1 := hf.1
  have k1 : ∀ q, q < H0.size → ¬ tgM tg q → H1[q]? = H0[q]? := fun q hq hx => hf.2 q hq (fun z => z.elim hx (fun z => by omega))
  exact ⟨fun q hq => by have := j1 q hq; omega, j2.mv (fun q hq hc => k1 q hq (fun z => by rcases hc with hc | hc <;> omega)) (fun _ _ => rfl), ⟨⟨mi, ma, hP, hS⟩, j5⟩, ⟨ptk j6 (fun hl9 => k1 _ hl9 (fun z => by omega)), ptk j7 (fun hl9 => k1 _ hl9 (fun z => by omega))⟩, ⟨j8, j9⟩, by omega⟩
theorem afterM {v r : Int32} (hJ : LJ G z0 base xa b oA oD tg n1 hn1 L1 T1 o1 n hn L T ov od H0) (hf : fr (aM tg H0) H0 H1) (hq : mQ G b n2 hn2 L2 T2 K v r H1) : (K = 0 → r = v) ∧ ∃ (mi : Nat → Int32) (ma : Nat → Nat → Int32), mP G b mi ma H1 ∧ mi 0 = nI K ∧ LJ G z0 base xa b oA oD tg n1 hn1 L1 T1 o1 n2 hn2 L2 T2 ov od H1 := by
  obtain ⟨h1, mi, ma, h2, h3, h4⟩ := hq
  exact ⟨h1, mi, ma, h2, h4, afterM0 hJ hf h2 h3⟩
theorem afterMx {P : Prop} (hJ : LJ G z0 base xa b oA oD tg n1 hn1 L1 T1 o1 n hn L T ov od H0) (hf : fr (aM tg H0) H0 H1) (hq : mQx G b n2 hn2 L2 T2 K P H1) : (K = 0 → P) ∧ ∃ (mi : Nat → Int32) (ma : Nat → Nat → Int32), mP G b mi ma H1 ∧ mi 0 = nI K ∧ LJ G z0 base xa b oA oD tg n1 hn1 L1 T1 o1 n2 hn2 L2 T2 ov od H1 := by
  obtain ⟨h1, mi, ma, h2, h3, h4⟩ := hq
  exact ⟨h1, mi, ma, h2, h4, afterM0 hJ hf h2 h3⟩
end AFT
theorem sgA {base : Nat} {tg : Nat → Nat} {H0 : Heap} (h : ∀ q, tg q ≠ 0 → base ≤ q ∧ q < H0.size) (hb : base ≤ H0.size) : ∀ q, aC tg H0 q → base ≤ q := fun q hq => by
  rcases hq with hq | hq
  · exact (h q (by rcases hq with e | e <;> omega)).1
  · omega
theorem sgM {base : Nat} {tg : Nat → Nat} {H0 : Heap} (h : ∀ q, tg q ≠ 0 → base ≤ q ∧ q < H0.size) (hb : base ≤ H0.size) : ∀ q, aM tg H0 q → base ≤ q := fun q hq => by
  rcases hq with hq | hq
  · exact (h q (by omega)).1
  · omega
