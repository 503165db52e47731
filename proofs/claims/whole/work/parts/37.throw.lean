-- ===== methods that may throw =====
def XH (Ξ : String → Heap → Prop) : String → State → State → Prop := fun E _ t => Ξ E t.heap
/-- what a throw leaves: all that was there -/
def thr (l : List String) (k : Nat) (H0 : Heap) : String → Heap → Prop := fun E H1 => (k ≠ 0 ∧ l[k - 1]? = some E) ∧ fr (fun _ => False) H0 H1
abbrev VzI (G : gT) (zA : Nat × Nat) (l : Launch) (y : MethodName) (ws : List Cond) (rm : Room) (as : List Value) (H0 : Heap) (A : Nat → Prop) (mc ms : Nat) (es : List String) (k : Nat) (Φ : Int32 → Heap → Prop) : Prop := vx_Met l y ws rm (PHz G zA A as H0) (QH (oI fun r H1 => fr A H0 H1 ∧ k = 0 ∧ Φ r H1)) (XH (thr es k H0)) mc ms A
abbrev VzD (G : gT) (zA : Nat × Nat) (l : Launch) (y : MethodName) (ws : List Cond) (rm : Room) (as : List Value) (H0 : Heap) (A : Nat → Prop) (mc ms : Nat) (es : List String) (k : Nat) (Φ : UInt64 → Heap → Prop) : Prop := vx_Met l y ws rm (PHz G zA A as H0) (QH (oD fun r H1 => fr A H0 H1 ∧ k = 0 ∧ Φ r H1)) (XH (thr es k H0)) mc ms A
theorem x_headx {G : gT} {zA : Nat × Nat} {A : Nat → Prop} {l : Launch} {y : MethodName} {bytes : ByteArray} {maxL : Nat} {ret : Option FieldType} {ws ws' : List Cond} {rm : Room} {as : List Value} {H0 : Heap} {Ψ : Outcome → Heap → Prop} {Ξ : String → Heap → Prop} {mc ms : Nat} {free : Addr → Prop}
    (hy : plainName y.cls = true) (hw : ws = Cond.code y bytes maxL ret :: ws') (hn : (lg_sl as).length ≤ maxL)
    (body : ∀ (p : Program) (e : Env) (s : State) (m : MethodId) (below : List Frame) (meth : Method) (c : Code) (ls : Array Slot), p.tables.exec = Jvm.exec → c.code = bytes → c.maxLocals = maxL → s.vm.findClass y.cls = some m.cls → (∀ w ∈ ws, w.before as.toArray s = true) → meth.sig.returnType = ret → meth.locks = false → meth.name = y.name → KK G s → s.heap = H0 → lv_has ls maxL (lv_args 0 as) →
      ∀ Q : State → Prop, Q = vx_MQ below (QH Ψ) (XH Ξ) as.toArray s mc ms free → KZ G zA A s H0 → (∀ x ∈ c.exceptionTable.toList, False) → W p l e rm s m as.toArray below meth c H0 [] 0 0 Q (F0 m 0 ls [])) : vx_Met l y ws rm (PHz G zA A as H0) (QH Ψ) (XH Ξ) mc ms free := by
  refine vx_ofW (cc := bytes) (maxL := maxL) (ret := ret) hy hw ?_
  intro p e s m args below meth c s₁ B hml hxt hv
  obtain ⟨rfl, hH, hK, hN⟩ := hv
  have hts := atoms_spec (ws := ws) B.pre
  have hl := lv_entry as (n := maxL) hn
  rw [lg_entry_eq, hH]
  exact body p e s m below meth c _ B.exec B.bytes hml (findClass_of_methodNamed B.named) hts B.returns B.notSynchronized (name_of_methodNamed B.named B.method).1 hK hH hl _ rfl hN hxt
section XTHR
variable {p : Program} {l : Launch} {e : Env} {R : Room} {s : State} {m : MethodId} {args : Array Value} {below : List Frame} {meth : Method} {c : Code} {H : Heap} {locs : List Loc} {cells slots : Nat} {Q : State → Prop} {pc : Nat} {ls : Array Slot} {rest : List Value} {cc : ByteArray} {G : gT} {A : Nat → Prop} {H0 : Heap} {free : Addr → Prop} {zA : Nat × Nat}
theorem x_vxret {Qc : Array Value → State → Outcome → State → Prop} {XC : String → State → State → Prop} {g : JFrame} {mc ms : Nat} (hQ : Q = vx_MQ below Qc XC args s mc ms free) (k : W p l e R s m args below meth c H locs cells slots (MQ below Qc args s mc ms free) g) : W p l e R s m args below meth c H locs cells slots Q g := by
  subst hQ
  exact vx_ret k
def xB (cls : String) : List Cond := [.castable cls cls, .declares ⟨"java/lang/RuntimeException", "<init>", "()V"⟩, .declares ⟨"java/lang/Exception", "<init>", "()V"⟩, .declares ⟨"java/lang/Throwable", "<init>", "()V"⟩]
theorem KX.all {cls : String} (h : KX s) (hc : cls = eIX ∨ cls = eIA ∨ cls = eIS) : ∀ w ∈ xB cls, w.before args s = true := by
  obtain ⟨⟨h1, h2, h3⟩, h4, h5, h6⟩ := h
  rcases hc with rfl | rfl | rfl
  · exact vx_c (va_Nw.use rfl h1) (vx_c (va_Nw.use rfl h4) (vx_c (va_Nw.use rfl h5) (vx_c (va_Nw.use rfl h6) vx_n)))
  · exact vx_c (va_Nw.use rfl h2) (vx_c (va_Nw.use rfl h4) (vx_c (va_Nw.use rfl h5) (vx_c (va_Nw.use rfl h6) vx_n)))
  · exact vx_c (va_Nw.use rfl h3) (vx_c (va_Nw.use rfl h4) (vx_c (va_Nw.use rfl h5) (vx_c (va_Nw.use rfl h6) vx_n)))
abbrev xN : List String := ["java/lang/RuntimeException", "java/lang/Exception"]
theorem x_throw {Ψ : Outcome → Heap → Prop} {cls : String} {ik ic mc ms k : Nat} {es : List String} (hQ : Q = vx_MQ below (QH Ψ) (XH (thr es k H0)) args s mc ms free) (hexec : p.tables.exec = Jvm.exec) (hb : c.code = cc) (hl : l.stackTraces = false) (hs0 : s.heap = H0) (hZ : KZ G zA A s H0) (hS : va_S A H0 H locs) (hHe : H = H0)
    (hown : s.vm.findClass RX3 = some m.cls) (hcE : cls = eIX ∨ cls = eIA ∨ cls = eIS) (hfit : Bundle.fit cls = true)
    (hk : (Cond.classLink RX3 ik cls).before args s = true) (hini : (Cond.initialized cls).before args s = true) (hat : ∀ w ∈ (vx_at0 RX3 ic cls xN).filter goodWord, w.before args s = true) (hB : ∀ w ∈ (vx_at0 RX3 ic cls xN).filter (fun w => !goodWord w), w ∈ xB cls)
    (hgood : ∀ w ∈ Cond.classLink RX3 ik cls :: Cond.initialized cls :: vx_at0 RX3 ic cls xN, vx_ot w = true) (hsize : ls.size = c.maxLocals)
    (d0 : decode cc pc = .ok (.new ik, 3)) (d3 : decode cc (pc + 3) = .ok (.dup, 1)) (d4 : decode cc (pc + 4) = .ok (.invokespecial ic, 3)) (d7 : decode cc (pc + 7) = .ok (.athrow, 1))
    (hxt : ∀ x ∈ c.exceptionTable.toList, False) (hRframes : 5 < R.frames) (hRlocals : (rest.map fun v => v.category).sum + 81 ≤ R.locals) (hRcells : cells + 1 ≤ R.cells) (hRslots : slots + 6 ≤ R.slots) (hlocks : meth.locks = false)
    (hf : ∀ z ∈ locs, free z.base) (hc : cells + 1 ≤ mc) (hs : slots + 6 ≤ ms) (hk0 : k ≠ 0 ∧ es[k - 1]? = some cls) : W p l e R s m args below meth c H locs cells slots Q (F0 m pc ls rest) := by
  subst hQ
  subst hs0
  exact vx_throw0 hexec hb hl hown hfit (fun n hn => by
    rcases List.mem_cons.mp hn with rfl | hn
    · decide
    · rcases List.mem_cons.mp hn with rfl | hn
      · decide
      · exact nomatch hn) hk hini (vx_hat hat hB (hZ.kx.all hcE)) hgood hZ.2.1.1 hZ.2.1.2 hS hsize d0 d3 d4 d7 (fun x hx => (hxt x hx).elim) hRframes hRlocals hRcells hRslots hlocks (fun t hal h1 h2 => ⟨hk0, by rw [← hHe]; exact h1, fun q hq _ => by rw [← hHe] at hq ⊢; exact h2 q hq⟩) hf hc hs
end XTHR
