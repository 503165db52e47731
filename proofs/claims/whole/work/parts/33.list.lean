-- ===== rows of references: made, copied, written =====
theorem KZ.cas {G : gT} {zA : Nat × Nat} {A : Nat → Prop} {U : State} {H : Heap} (h : KZ G zA A U H) {ci : Nat} (hc : ci = 0 ∨ ci = 2) : ∃ q : vw_C, vC[ci]? = some q ∧ va_Nw (.castable q.1 cOB) U := by
  rcases hc with e | e
  · rw [e]; exact ⟨_, rfl, h.2.2.2.2.1⟩
  · rw [e]; exact ⟨_, rfl, h.2.2.2.1⟩
theorem x_asg {s : State} {C : String} (hca : va_Nw (.castable C cOB) s) (comp c0 : ClassId) (h1 : s.vm.findClass cOB = some comp) (h2 : s.vm.findClass C = some c0) : s.vm.assignable c0 comp = true := by
  obtain ⟨c1, t1, f1, f2, f3⟩ := Cond.castable_spec (va_Nw.use (A := #[]) rfl hca)
  cases h2.symm.trans f1
  cases h1.symm.trans f2
  exact f3
theorem x_any {G : gT} {s : State} {H : Heap} {v ci : Nat} {fs : List Value} {q : vw_C} (hK : KK G s) (h : pt G v (.inr (ci, fs)) H) (hc : vC[ci]? = some q) (hca : va_Nw (.castable q.1 cOB) s) : va_Any cOB s H v := by
  obtain ⟨cell, h1, h2, h3⟩ := x_recv hK h hc
  obtain ⟨kC, hkC, -⟩ := Vm.findClass_spec h3
  exact ⟨cell, h1, h2, ⟨kC, hkC⟩, fun comp hcp => x_asg hca comp _ hcp h3⟩
section XROW
variable {p : Program} {l : Launch} {e : Env} {R : Room} {s : State} {m : MethodId} {args : Array Value} {below : List Frame} {meth : Method} {c : Code} {H : Heap} {locs : List Loc} {cells slots : Nat} {Q : State → Prop} {pc : Nat} {ls : Array Slot} {rest : List Value} {cc : ByteArray} {G : gT} {A : Nat → Prop} {ws : va_W} {H0 : Heap} {free : Addr → Prop}
theorem x_newQ {N : Nat} (hexec : p.tables.exec = Jvm.exec) (hb : c.code = cc) {own : String} {index : Nat} (hown : s.vm.findClass own = some m.cls) (hclink : (Cond.classLink own index cOB).before args s = true) (hover : va_AO cOB s) (hK : KK G s) (hP : va_P (gD G) vC ws H) (hD : va_D A ws) (hS : va_S A H0 H locs) (hA : ∀ q, H0.size ≤ q → A q) (hN : N < 2 ^ 31) (hbytes : N * 4 ≤ 536870912) (hcells : cells + 1 ≤ R.cells) (hslots : slots + N ≤ R.slots) (hdg : decode cc pc = .ok (.anewarray index, 3))
    (kk : ∀ (q : Nat) (H1 : Heap), va_P (gD G) vC (ws ++ [(q, eQ G N (fun _ => none))]) H1 → va_D A (ws ++ [(q, eQ G N (fun _ => none))]) → va_S A H0 H1 locs →
      W p l e R s m args below meth c H1 locs (cells + 1) (slots + N) Q (F0 m (pc + 3) ls (.ref q :: rest))) : W p l e R s m args below meth c H locs cells slots Q (F0 m pc ls (.int (nI N) :: rest)) :=
  va_newq hexec hb hown hclink hover hK hP hD hS hA (nI_pos hN) (nI_clamp hN) hbytes hcells hslots hdg (fun q cA H1 hK1 hP1 hD1 hS1 => by
    obtain ⟨-, -, -, -, -, h1⟩ := (hK1.2 4 (cA, .object cOB) rfl).2
    obtain ⟨-, -, -, -, -, h2⟩ := (hK.2 1 (G.2.2 1, .object cOB) rfl).2
    have e9 : G.2.2 1 = cA := Option.some.inj (h2.symm.trans h1)
    refine kk q H1 ?_ ?_ hS1
    · show va_P (gD G) vC (ws ++ [(q, .inl (G.2.2 1, N, .inr (.inr (.inr (.inr fun _ => none)))))]) H1
      rw [e9]; exact hP1
    · show va_D A (ws ++ [(q, .inl (G.2.2 1, N, .inr (.inr (.inr (.inr fun _ => none)))))])
      rw [e9]; exact hD1)
theorem x_copyQ (hexec : p.tables.exec = Jvm.exec) (hb : c.code = cc) (hml : c.maxLocals = ls.size) {own : String} {index : Nat} (hown : s.vm.findClass own = some m.cls) (hlink : (Cond.methodLink own index arraycopyName).before args s = true) (hnat : (Cond.native arraycopyName).before args s = true) (hstat : (Cond.static arraycopyName).before args s = true) (hini : (Cond.initialized "java/lang/System").before args s = true)
    (hK : KK G s) (hP : va_P (gD G) vC ws H) (hD : va_D A ws) (hS : va_S A H0 H locs) (q0 q1 : Nat) {a0 a1 n0 n1 ci : Nat} {f g : Nat → Option Nat} (ha0 : ws[q0]? = some (a0, eQ G n0 f)) (ha1 : ws[q1]? = some (a1, eQ G n1 g)) {sp dp n : Nat} (h1 : sp < 2 ^ 31) (h2 : dp < 2 ^ 31) (h3 : n < 2 ^ 31) (h4 : sp + n ≤ n0) (h5 : dp + n ≤ n1)
    {q : vw_C} (hc : vC[ci]? = some q) (hca : va_Nw (.castable q.1 cOB) s) (hel : ∀ i, i < n → ∀ y, f (sp + i) = some y → ∃ fs, pt G y (.inr (ci, fs)) H)
    (hframes : 1 ≤ R.frames) (hlocals : (rest.map fun v => v.category).sum + (nativeFrameWords "java/lang/System" "arraycopy" 5 + 11) ≤ R.locals) (hdg : decode cc pc = .ok (.invokestatic index, 3))
    (kk : ∀ (H1 : Heap) (locs1 : List Loc), va_P (gD G) vC (ws.set q1 (a1, eQ G n1 (va_cpy f g sp dp n))) H1 → va_D A (ws.set q1 (a1, eQ G n1 (va_cpy f g sp dp n))) → va_S A H0 H1 locs1 → W p l e R s m args below meth c H1 locs1 cells slots Q (F0 m (pc + 3) ls rest)) : W p l e R s m args below meth c H locs cells slots Q (F0 m pc ls (.int (nI n) :: .int (nI dp) :: .ref a1 :: .int (nI sp) :: .ref a0 :: rest)) :=
  va_copyq (C := q.1) hexec hb hml hown hlink hnat hstat hini hK hP hD hS q0 q1 1 1 ha0 ha1 rfl rfl (nI_pos h1) (nI_pos h2) (nI_pos h3) (by rw [nI_clamp h1, nI_clamp h3]; exact h4) (by rw [nI_clamp h2, nI_clamp h3]; exact h5) (fun i hi y hy => by
    rw [nI_clamp h3] at hi
    rw [nI_clamp h1] at hy
    obtain ⟨fs, hf⟩ := hel i hi y hy
    exact x_recv hK hf hc) (x_asg hca) hframes hlocals hdg (by rw [nI_clamp h1, nI_clamp h2, nI_clamp h3]; exact kk)
theorem x_aast (hexec : p.tables.exec = Jvm.exec) (hb : c.code = cc) (hK : KK G s) (hP : va_P (gD G) vC ws H) (hD : va_D A ws) (hS : va_S A H0 H locs) (q0 : Nat) {a n v : Nat} {f : Nat → Option Nat} (ha : ws[q0]? = some (a, eQ G n f)) (hv : va_Any cOB s H v) {i : Nat} (hin : i < n) (hn : n < 2 ^ 31) (hdg : decode cc pc = .ok (.aastore, 1))
    (kk : ∀ (H1 : Heap) (locs1 : List Loc), va_P (gD G) vC (ws.set q0 (a, eQ G n (va_up f i (some v)))) H1 → va_D A (ws.set q0 (a, eQ G n (va_up f i (some v)))) → va_S A H0 H1 locs1 → W p l e R s m args below meth c H1 locs1 cells slots Q (F0 m (pc + 1) ls rest)) : W p l e R s m args below meth c H locs cells slots Q (F0 m pc ls (.ref v :: .int (nI i) :: .ref a :: rest)) :=
  va_astqM hexec hb hK hP hD hS q0 1 ha rfl hv (vp_in_nI hin hn) hdg (by rw [nI_clamp (by omega)]; exact kk)
theorem x_aret {cA : ByteArray} {v : Nat} {rt : FieldType} {Φ : Nat → Heap → Prop} (hQ : Q = MQ below (QH (oA Φ)) args s cells slots free) (hexec : p.tables.exec = Jvm.exec) (hb : c.code = cA) (hr : meth.sig.returnType = some rt) (hrt : (∃ n, rt = .object n) ∨ ∃ t, rt = .array t) (hlocks : meth.locks = false) (hf : ∀ q ∈ locs, free q.base)
    {pc : Nat} {ls : Array Slot} (hdg : decode cA pc = .ok (.areturn, 1)) (hq : Φ v H) : W p l e R s m args below meth c H locs cells slots Q (F0 m pc ls [.ref v]) := by
  subst hQ
  exact W.aret hexec hb hr hrt (Or.inr ⟨v, rfl⟩) (fun t ht _ => ⟨v, rfl, by rw [ht]; exact hq⟩) hf hdg hlocks
theorem x_gcls (hexec : p.tables.exec = Jvm.exec) (hb : c.code = cc) (hml : c.maxLocals = ls.size) {own : String} {index mi a n : Nat} {f : Nat → Option Nat} (hown : s.vm.findClass own = some m.cls) (hlink : (Cond.methodLink own index ⟨"java/lang/Object", "getClass", "()Ljava/lang/Class;"⟩).before args s = true) (hdc : va_Dc s)
    (hsel : (Cond.selects "[Ljava/lang/Object;" ⟨"java/lang/Object", "getClass", "()Ljava/lang/Class;"⟩ ⟨"java/lang/Object", "getClass", "()Ljava/lang/Class;"⟩).before args s = true) (hinst : (Cond.instanceMethod ⟨"java/lang/Object", "getClass", "()Ljava/lang/Class;"⟩).before args s = true) (hnat : (Cond.native ⟨"java/lang/Object", "getClass", "()Ljava/lang/Class;"⟩).before args s = true) (hM : va_Mi "[Ljava/lang/Object;" mi s)
    (hK : KK G s) (hat : pt G a (eQ G n f) H) (hframes : 1 ≤ R.frames) (hlocals : (rest.map fun v => v.category).sum + 14 ≤ R.locals) (hdg : decode cc pc = .ok (.invokevirtual index, 3))
    (k : W p l e R s m args below meth c H locs cells slots Q (F0 m (pc + 3) ls (.ref mi :: rest))) : W p l e R s m args below meth c H locs cells slots Q (F0 m pc ls (.ref a :: rest)) :=
  va_getC hexec hb hml hown hlink (va_Dc.use hdc) hsel hinst hnat hM ⟨_, hat, rfl, va_nmO (hK.2 1 (G.2.2 1, .object cOB) rfl).2 (by decide)⟩ hframes hlocals hdg k
end XROW
/-- the cells of ws and all that isn't there yet in H -/
def nset (ws : va_W) (H : Heap) : Nat → Prop := fun q => aset ws q ∨ H.size ≤ q
theorem nset_A {A : Nat → Prop} {ws : va_W} {H : Heap} (h : va_D A ws) (hA : ∀ q, H.size ≤ q → A q) : ∀ q, nset ws H q → A q := fun q hq => hq.elim (aset_A h q) (hA q)
theorem nset_D {A : Nat → Prop} {ws : va_W} {H : Heap} (h : va_D A ws) : va_D (nset ws H) ws := ⟨h.1, fun k q hk => Or.inl ⟨k, q.2, hk⟩⟩
theorem nset_fr {ws : va_W} {H H1 : Heap} (h : fr (nset ws H) H H1) : fr (aset ws) H H1 := ⟨h.1, fun q hq hn => h.2 q hq (fun z => z.elim hn (fun g => absurd hq (Nat.not_lt.mpr g)))⟩
theorem nset_out {A : Nat → Prop} {D : va_G} {cl : List vw_C} {ws X : va_W} {H : Heap} (hP : va_P D cl (ws ++ X) H) (hD : va_D A (ws ++ X)) {k : Nat} {q : Nat × va_E} (hk : X[k]? = some q) : ¬ nset ws H q.1 := by
  have hx : (ws ++ X)[ws.length + k]? = some q := by
    rw [List.getElem?_append_right (by omega), Nat.add_sub_cancel_left]; exact hk
  rintro (⟨i, e, hi⟩ | hz)
  · have hil := (List.getElem?_eq_some_iff.mp hi).1
    have hi2 : (ws ++ X)[i]? = some (q.1, e) := by rw [List.getElem?_append_left hil]; exact hi
    have := hD.1 i (ws.length + k) (q.1, e) q hi2 hx rfl
    omega
  · have := (hP _ q hx).lt
    omega
theorem nset_app {A : Nat → Prop} {D : va_G} {cl : List vw_C} {ws ws' X : va_W} {H : Heap} (hP : va_P D cl (ws ++ X) H) (hD : va_D A (ws ++ X)) (hA : ∀ q, H.size ≤ q → A q) (h1 : va_D (nset ws H) ws') : va_D A (ws' ++ X) := by
  have key : ∀ (k : Nat) (q : Nat × va_E), (ws' ++ X)[k]? = some q → (k < ws'.length ∧ ws'[k]? = some q) ∨ (ws'.length ≤ k ∧ X[k - ws'.length]? = some q) := fun k q hk => by
    rcases Nat.lt_or_ge k ws'.length with g | g
    · rw [List.getElem?_append_left g] at hk; exact Or.inl ⟨g, hk⟩
    · rw [List.getElem?_append_right g] at hk; exact Or.inr ⟨g, hk⟩
  have hX : ∀ (k : Nat) (q : Nat × va_E), X[k]? = some q → (ws ++ X)[ws.length + k]? = some q := fun k q hk => by
    rw [List.getElem?_append_right (by omega), Nat.add_sub_cancel_left]; exact hk
  refine ⟨fun i j p q hi hj hpq => ?_, fun k q hk => ?_⟩
  · rcases key i p hi with ⟨g1, g2⟩ | ⟨g1, g2⟩ <;> rcases key j q hj with ⟨g3, g4⟩ | ⟨g3, g4⟩
    · exact h1.1 i j p q g2 g4 hpq
    · exact absurd (h1.2 i p g2) (by rw [hpq]; exact nset_out hP hD g4)
    · exact absurd (h1.2 j q g4) (by rw [← hpq]; exact nset_out hP hD g2)
    · have := hD.1 _ _ p q (hX _ p g2) (hX _ q g4) hpq
      omega
  · rcases key k q hk with ⟨g1, g2⟩ | ⟨g1, g2⟩
    · rcases h1.2 k q g2 with ⟨i, e, hi⟩ | hz
      · exact hD.2 i (q.1, e) (by rw [List.getElem?_append_left (List.getElem?_eq_some_iff.mp hi).1]; exact hi)
      · exact hA _ hz
    · exact hD.2 _ q (hX _ q g2)
theorem shr1 {n : Nat} (h : n < 2 ^ 31) : nI n >>> (nI 1 &&& 31) = nI (n / 2) := by
  have k := pk_shrN (n := n) h (nI 1 &&& 31) 1 (by decide)
  rw [Nat.pow_one] at k
  exact k
