-- ===== the law's own methods: a call that may throw, caught =====
/-- what the handlers' order asks: no refusal is of another's class -/
def NCx (U : State) : Prop := va_Nc eIA eIX U ∧ va_Nc eIS eIX U ∧ va_Nc eIS eIA U
theorem NCx.moved {u U : State} (hvm : u.vm.Alike U.vm) (h : NCx u) : NCx U := ⟨h.1.moved hvm, h.2.1.moved hvm, h.2.2.moved hvm⟩
def PHw (G : gT) (zA : Nat × Nat) (A : Nat → Prop) (as : List Value) (H0 : Heap) : Array Value → State → Prop := fun v U => PHz G zA A as H0 v U ∧ NCx U
theorem PHw.blind {G : gT} {zA : Nat × Nat} {A : Nat → Prop} {as : List Value} {H0 : Heap} : FrameBlind (PHw G zA A as H0) := fun a U g mk q => ⟨PHz.blind a U g mk q.1, NCx.moved (u := U) (U := U.calling g mk a) (Vm.Alike.refl U.vm) q.2⟩
theorem x_preSw {G : gT} {zA : Nat × Nat} {A : Nat → Prop} {s : State} {H : Heap} {As : List Value} (hK : KK G s) (hZ : KZ G zA A s H) (hN : NCx s) : PreS s H (PHw G zA A As H) As := ⟨PHw.blind, fun U hU hW => ⟨⟨rfl, hU, hK.mv hW, hZ.mv hW⟩, hN.moved hW.alike⟩⟩
theorem x_headw {G : gT} {zA : Nat × Nat} {A : Nat → Prop} {l : Launch} {y : MethodName} {bytes : ByteArray} {maxL : Nat} {ret : Option FieldType} {hh : List (Nat × Nat × Nat × Nat)} {ws ws' : List Cond} {rm : Room} {as : List Value} {H0 : Heap} {Ψ : Outcome → Heap → Prop} {mc ms : Nat} {free : Addr → Prop}
    (hy : plainName y.cls = true) (hw : ws = Cond.codeWith y bytes maxL ret hh :: ws') (hn : (lg_sl as).length ≤ maxL)
    (body : ∀ (p : Program) (e : Env) (s : State) (m : MethodId) (below : List Frame) (meth : Method) (c : Code) (ls : Array Slot), p.tables.exec = Jvm.exec → c.code = bytes → c.maxLocals = maxL → s.vm.findClass y.cls = some m.cls → (∀ w ∈ ws, w.before as.toArray s = true) → meth.sig.returnType = ret → meth.locks = false → meth.name = y.name → KK G s → s.heap = H0 → lv_has ls maxL (lv_args 0 as) →
      ∀ Q : State → Prop, Q = MQ below (QH Ψ) as.toArray s mc ms free → KZ G zA A s H0 → NCx s → c.exceptionTable.toList = tableOf hh → W p l e rm s m as.toArray below meth c H0 [] 0 0 Q (F0 m 0 ls [])) : Met l y ws rm (PHw G zA A as H0) (QH Ψ) mc ms free := by
  refine va_MetW (cc := bytes) (maxL := maxL) (ret := ret) (hh := hh) hy hw ?_
  intro p e s m args below meth c s₁ B hml hv
  obtain ⟨⟨rfl, hH, hK, hZ⟩, hN⟩ := hv
  have hts := atoms_spec (ws := ws) B.pre
  have hl := lv_entry as (n := maxL) hn
  have hxt := vx_table (x := y) (hh := hh) (bytes := bytes) (maxL' := maxL) (ret' := ret) B (hts _ (by rw [hw]; exact List.mem_cons_self))
  rw [lg_entry_eq, hH]
  exact body p e s m below meth c _ B.exec B.bytes hml (findClass_of_methodNamed B.named) hts B.returns B.notSynchronized (name_of_methodNamed B.named B.method).1 hK hH hl _ rfl hZ hN hxt
theorem S_join {A0 A1 : Nat → Prop} {H0 H H1 : Heap} {locs L : List Loc} (hS : va_S A0 H0 H locs) (hf : fr A1 H H1) (hA : ∀ q, A1 q → A0 q) (hL : ∀ q ∈ L, A0 q.base) : va_S A0 H0 H1 (locs ++ L) :=
  ⟨Nat.le_trans hS.1 hf.1, fun q h1 h2 => by rw [hf.2 q (Nat.lt_of_lt_of_le h1 hS.1) (fun z => h2 (hA q z))]; exact hS.2.1 q h1 h2, fun q h => by
    rcases List.mem_append.mp h with h | h
    · exact hS.2.2 q h
    · exact hL q h⟩
theorem thr1 {a E : String} {k : Nat} (hk : k ≠ 0) (h : [a][k - 1]? = some E) : E = a ∧ k = 1 := by
  obtain ⟨j, rfl⟩ : ∃ j, k = j + 1 := ⟨k - 1, by omega⟩
  rw [Nat.add_sub_cancel] at h
  match j, h with
  | 0, h => exact ⟨(Option.some.inj h).symm, rfl⟩
  | j + 1, h => cases h
theorem thr2 {a b E : String} {k : Nat} (hk : k ≠ 0) (h : [a, b][k - 1]? = some E) : (E = a ∧ k = 1) ∨ (E = b ∧ k = 2) := by
  obtain ⟨j, rfl⟩ : ∃ j, k = j + 1 := ⟨k - 1, by omega⟩
  rw [Nat.add_sub_cancel] at h
  match j, h with
  | 0, h => exact Or.inl ⟨(Option.some.inj h).symm, rfl⟩
  | 1, h => exact Or.inr ⟨(Option.some.inj h).symm, rfl⟩
  | j + 2, h => cases h
theorem thr3 {a b c E : String} {k : Nat} (hk : k ≠ 0) (h : [a, b, c][k - 1]? = some E) : (E = a ∧ k = 1) ∨ (E = b ∧ k = 2) ∨ (E = c ∧ k = 3) := by
  obtain ⟨j, rfl⟩ : ∃ j, k = j + 1 := ⟨k - 1, by omega⟩
  rw [Nat.add_sub_cancel] at h
  match j, h with
  | 0, h => exact Or.inl ⟨(Option.some.inj h).symm, rfl⟩
  | 1, h => exact Or.inr (Or.inl ⟨(Option.some.inj h).symm, rfl⟩)
  | 2, h => exact Or.inr (Or.inr ⟨(Option.some.inj h).symm, rfl⟩)
  | j + 3, h => cases h
section XCALL
variable {p : Program} {l : Launch} {e : Env} {R : Room} {s : State} {m : MethodId} {args : Array Value} {below : List Frame} {meth : Method} {c : Code} {H : Heap} {locs : List Loc} {cells slots : Nat} {Q : State → Prop} {pc : Nat} {ls : Array Slot} {rest st0 : List Value} {a : Array Value} {mc ms : Nat} {cc : ByteArray} {G : gT} {A0 A1 : Nat → Prop} {H0 : Heap} {es : List String} {k : Nat}
theorem x_callx {Φ : Int32 → Heap → Prop} (hr : vx_Run p l e R s m args below meth c H locs cells slots mc ms (F0 m pc ls st0) rest (QH (oI fun r H1 => fr A1 H H1 ∧ k = 0 ∧ Φ r H1) a) (XH (thr es k H)) A1) (hS : va_S A0 H0 H locs) (hA : ∀ q, A1 q → A0 q)
    (kx : ∀ (E : String) (ce : Cell) (q9 : Addr) (H1 : Heap) (locs1 : List Loc), k ≠ 0 → es[k - 1]? = some E → fr (fun _ => False) H H1 → va_S A0 H0 H1 locs1 → H1[q9]? = some ce → ce.vm = .none → s.vm.findClass E = some ce.cls → vx_W p l e R s m args below meth c H1 locs1 (cells + mc) (slots + ms) Q (F0 m pc ls rest) q9)
    (kk : ∀ (r : Int32) (H1 : Heap) (locs1 : List Loc), k = 0 → fr A1 H H1 → Φ r H1 → va_S A0 H0 H1 locs1 → W p l e R s m args below meth c H1 locs1 (cells + mc) (slots + ms) Q (F0 m (pc + 3) ls (.int r :: rest))) : W p l e R s m args below meth c H locs cells slots Q (F0 m pc ls st0) := by
  intro T hT X
  rcases hr T hT X with ⟨v, st₀, t, T', L, h0, X', hL, e1, e2, hq, st⟩ | ⟨q, st₀, t, T', L, E, ce, h0, X', hL, e1, e2, hx, hce, hcv, hcl, st⟩
  · obtain ⟨r, hv, hf, hk, hφ⟩ := hq
    cases hv
    rw [← e1] at hf hφ
    obtain ⟨t2, a1, b1⟩ := kk r T'.heap (locs ++ L) hk hf hφ (S_join hS hf hA (fun q h => hA _ (hL q h))) T' rfl X'
    exact ⟨t2, st t2 a1, b1⟩
  · obtain ⟨⟨hk, hE⟩, hf⟩ := hx
    rw [← e1] at hf hce
    obtain ⟨t2, a1, b1⟩ := kx E ce q T'.heap (locs ++ L) hk hE hf (S_join hS hf (fun _ z => z.elim) (fun q h => hA _ (hL q h))) hce hcv hcl T' rfl X'
    exact ⟨t2, st.trans a1, b1⟩
theorem x_calldx {Φ : UInt64 → Heap → Prop} (hr : vx_Run p l e R s m args below meth c H locs cells slots mc ms (F0 m pc ls st0) rest (QH (oD fun r H1 => fr A1 H H1 ∧ k = 0 ∧ Φ r H1) a) (XH (thr es k H)) A1) (hS : va_S A0 H0 H locs) (hA : ∀ q, A1 q → A0 q)
    (kx : ∀ (E : String) (ce : Cell) (q9 : Addr) (H1 : Heap) (locs1 : List Loc), k ≠ 0 → es[k - 1]? = some E → fr (fun _ => False) H H1 → va_S A0 H0 H1 locs1 → H1[q9]? = some ce → ce.vm = .none → s.vm.findClass E = some ce.cls → vx_W p l e R s m args below meth c H1 locs1 (cells + mc) (slots + ms) Q (F0 m pc ls rest) q9)
    (kk : ∀ (r : UInt64) (H1 : Heap) (locs1 : List Loc), k = 0 → fr A1 H H1 → Φ r H1 → va_S A0 H0 H1 locs1 → W p l e R s m args below meth c H1 locs1 (cells + mc) (slots + ms) Q (F0 m (pc + 3) ls (.double r :: rest))) : W p l e R s m args below meth c H locs cells slots Q (F0 m pc ls st0) := by
  intro T hT X
  rcases hr T hT X with ⟨v, st₀, t, T', L, h0, X', hL, e1, e2, hq, st⟩ | ⟨q, st₀, t, T', L, E, ce, h0, X', hL, e1, e2, hx, hce, hcv, hcl, st⟩
  · obtain ⟨r, hv, hf, hk, hφ⟩ := hq
    cases hv
    rw [← e1] at hf hφ
    obtain ⟨t2, a1, b1⟩ := kk r T'.heap (locs ++ L) hk hf hφ (S_join hS hf hA (fun q h => hA _ (hL q h))) T' rfl X'
    exact ⟨t2, st t2 a1, b1⟩
  · obtain ⟨⟨hk, hE⟩, hf⟩ := hx
    rw [← e1] at hf hce
    obtain ⟨t2, a1, b1⟩ := kx E ce q T'.heap (locs ++ L) hk hE hf (S_join hS hf (fun _ z => z.elim) (fun q h => hA _ (hL q h))) hce hcv hcl T' rfl X'
    exact ⟨t2, st.trans a1, b1⟩
theorem x_lastF (hexec : p.tables.exec = Jvm.exec) (hb : c.code = cc) (hK : KK G s) (hS : va_S A0 H0 H locs) {x : Nat} {f : Nat → Int64} (hat : pt G x (eL G 1 f) H) (hA : A0 x) {v : Int64} (hdg : decode cc pc = .ok (.lastore, 1))
    (kk : ∀ (H1 : Heap) (locs1 : List Loc), fr (fun q => q = x) H H1 → pt G x (eL G 1 (vp_updL f 0 v)) H1 → va_S A0 H0 H1 locs1 → W p l e R s m args below meth c H1 locs1 cells slots Q (F0 m (pc + 1) ls rest)) : W p l e R s m args below meth c H locs cells slots Q (F0 m pc ls (.long v :: .int (nI 0) :: .ref x :: rest)) := by
  refine W.last (j := nI 0) (x := v) hexec hb hat ((hK.2 2 (G.2.2 2, .long) rfl).1 1 (fun j => .long (f j))) (fun q => by cases q) (by show ¬ (nI 0 < 0 ∨ (arrV _ _ _).slots.size ≤ _); rw [arrV_size]; exact vp_in_nI (n := 0) (N := 1) (by omega) (by decide)) rfl rfl hdg fun H1 e z oq => ?_
  refine kk H1 _ ⟨by rw [z]; exact Nat.le_refl _, fun q _ hn => oq q hn⟩ ?_ (hS.put z oq hA)
  show H1[x]? = some (vp_cell _ _)
  rw [e, vp_cell_l, vp_cell_l, arrV_store]
  congr 2
  funext q
  by_cases hq : q = 0
  · subst hq
    rw [nI_clamp (by decide)]
    simp [updV, vp_updL]
  · rw [nI_clamp (by decide)]
    simp [updV, vp_updL, hq]
theorem x_dastF (hexec : p.tables.exec = Jvm.exec) (hb : c.code = cc) (hK : KK G s) (hS : va_S A0 H0 H locs) {x : Nat} {f : Nat → UInt64} (hat : pt G x (eD G 1 f) H) (hA : A0 x) {v : UInt64} (hdg : decode cc pc = .ok (.dastore, 1))
    (kk : ∀ (H1 : Heap) (locs1 : List Loc), fr (fun q => q = x) H H1 → pt G x (eD G 1 (vf_upd f 0 v)) H1 → va_S A0 H0 H1 locs1 → W p l e R s m args below meth c H1 locs1 cells slots Q (F0 m (pc + 1) ls rest)) : W p l e R s m args below meth c H locs cells slots Q (F0 m pc ls (.double v :: .int (nI 0) :: .ref x :: rest)) := by
  refine W.dast (j := nI 0) (x := v) hexec hb hat ((hK.2 3 (G.2.2 3, .double) rfl).1 1 (fun j => .double (f j))) (fun q => by cases q) (by show ¬ (nI 0 < 0 ∨ (arrV _ _ _).slots.size ≤ _); rw [arrV_size]; exact vp_in_nI (n := 0) (N := 1) (by omega) (by decide)) rfl rfl hdg fun H1 e z oq => ?_
  refine kk H1 _ ⟨by rw [z]; exact Nat.le_refl _, fun q _ hn => oq q hn⟩ ?_ (hS.put z oq hA)
  show H1[x]? = some (vp_cell _ _)
  rw [e, vp_cell_d, vp_cell_d, arrV_store]
  congr 2
  funext q
  by_cases hq : q = 0
  · subst hq
    rw [nI_clamp (by decide)]
    simp [updV, vf_upd]
  · rw [nI_clamp (by decide)]
    simp [updV, vf_upd, hq]
end XCALL
/-- what a wrapper leaves: its code; the answer in its row, or all as it was -/
def wrQ (G : gT) (A : Nat → Prop) (oA : Nat) (ov : Nat → Int64) (H0 : Heap) (k : Nat) (Φ : Int32 → Heap → Prop) (r : Int32) (H1 : Heap) : Prop :=
  r = nI k ∧ ((k = 0 ∧ ∃ (v : Int32) (H2 : Heap), fr A H0 H2 ∧ Φ v H2 ∧ fr (fun q => q = oA) H2 H1 ∧ pt G oA (eL G 1 (vp_updL ov 0 v.toInt64)) H1) ∨ (k ≠ 0 ∧ fr (fun _ => False) H0 H1))
def wrD (G : gT) (A : Nat → Prop) (oA : Nat) (ov : Nat → UInt64) (H0 : Heap) (k : Nat) (Φ : UInt64 → Heap → Prop) (r : Int32) (H1 : Heap) : Prop :=
  r = nI k ∧ ((k = 0 ∧ ∃ (v : UInt64) (H2 : Heap), fr A H0 H2 ∧ Φ v H2 ∧ fr (fun q => q = oA) H2 H1 ∧ pt G oA (eD G 1 (vf_upd ov 0 v)) H1) ∨ (k ≠ 0 ∧ fr (fun _ => False) H0 H1))
