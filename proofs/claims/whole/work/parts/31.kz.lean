-- ===== what stands through the class's calls that make things or throw: statics, words of the tables =====
abbrev cOB : String := "java/lang/Object"
abbrev eIX : String := "java/lang/IndexOutOfBoundsException"
abbrev eIA : String := "java/lang/IllegalArgumentException"
abbrev eIS : String := "java/lang/IllegalStateException"
/-- what a throw asks of the tables beside the method's own words -/
def KX (U : State) : Prop := (va_Nw (.castable eIX eIX) U ∧ va_Nw (.castable eIA eIA) U ∧ va_Nw (.castable eIS eIS) U) ∧ va_Nw (.declares ⟨"java/lang/RuntimeException", "<init>", "()V"⟩) U ∧ va_Nw (.declares ⟨"java/lang/Exception", "<init>", "()V"⟩) U ∧ va_Nw (.declares ⟨"java/lang/Throwable", "<init>", "()V"⟩) U
theorem KX.mv {s U : State} (h : KX s) (hW : s.WarmedH U.vm) : KX U := ⟨⟨va_Nw.warmC hW h.1.1, va_Nw.warmC hW h.1.2.1, va_Nw.warmC hW h.1.2.2⟩, va_Nw.warmD hW h.2.1, va_Nw.warmD hW h.2.2.1, va_Nw.warmD hW h.2.2.2⟩
theorem KX.calling {U : State} {g : JFrame} {mk : MethodId} {a : Array Value} (h : KX U) : KX (U.calling g mk a) := ⟨⟨va_Nw.same rfl (u := U) (U := U.calling g mk a) rfl h.1.1, va_Nw.same rfl (u := U) (U := U.calling g mk a) rfl h.1.2.1, va_Nw.same rfl (u := U) (U := U.calling g mk a) rfl h.1.2.2⟩, va_Nw.same rfl (u := U) (U := U.calling g mk a) rfl h.2.1, va_Nw.same rfl (u := U) (U := U.calling g mk a) rfl h.2.2.1, va_Nw.same rfl (u := U) (U := U.calling g mk a) rfl h.2.2.2⟩
def KZ (G : gT) (zA : Nat × Nat) (A : Nat → Prop) (U : State) (H : Heap) : Prop :=
  (va_Z "java/util/ArrayList" "DEFAULTCAPACITY_EMPTY_ELEMENTDATA" "[Ljava/lang/Object;" (.ref zA.1) A U H ∧ va_T (.object cOB) zA.1 0 (fun _ => .null) A U H ∧ ¬ A zA.1) ∧ (vx_Zq Bundle.tN "UNASSIGNED_STACK" Bundle.steD A U H ∧ vx_Zq Bundle.tN "SUPPRESSED_SENTINEL" Bundle.listD A U H) ∧ (va_AO cOB U ∧ va_Mi "[Ljava/lang/Object;" zA.2 U ∧ va_Dc U) ∧ va_Nw (.castable RX2 cOB) U ∧ va_Nw (.castable RX0 cOB) U ∧ NN U ∧ KX U
theorem KZ.mv {G : gT} {zA : Nat × Nat} {A : Nat → Prop} {s U : State} {H : Heap} (h : KZ G zA A s H) (hW : s.WarmedH U.vm) : KZ G zA A U H := by
  obtain ⟨⟨h1, h2, h3⟩, ⟨h4, h5⟩, ⟨h6, h7, h8⟩, h9, h10, h11, h12⟩ := h
  exact ⟨⟨h1.moved hW.alike, h2.moved hW.alike, h3⟩, ⟨h4.moved hW.alike, h5.moved hW.alike⟩, ⟨h6.moved hW.alike, h7.moved hW.alike, h8.moved hW.alike⟩, va_Nw.warmC hW h9, va_Nw.warmC hW h10, va_Nw.warmM hW h11, h12.mv hW⟩
theorem KZ.kept {G : gT} {zA : Nat × Nat} {A : Nat → Prop} {U : State} {H H1 : Heap} (h : KZ G zA A U H) (hq : ∀ a : Nat, a < H.size → ¬ A a → H1[a]? = H[a]?) : KZ G zA A U H1 := by
  obtain ⟨⟨h1, h2, h3⟩, ⟨h4, h5⟩, h6⟩ := h
  exact ⟨⟨h1.kept hq, h2.kept hq, h3⟩, ⟨h4.kept hq, h5.kept hq⟩, h6⟩
theorem KZ.at {G : gT} {zA : Nat × Nat} {A : Nat → Prop} {U : State} {H H1 : Heap} {locs : List Loc} (h : KZ G zA A U H) (hS : va_S A H H1 locs) : KZ G zA A U H1 := h.kept hS.2.1
theorem KZ.narrow {G : gT} {zA : Nat × Nat} {A B : Nat → Prop} {U : State} {H : Heap} (h : KZ G zA A U H) (hAB : ∀ q, B q → A q) : KZ G zA B U H := by
  obtain ⟨⟨h1, h2, h3⟩, ⟨h4, h5⟩, h6⟩ := h
  exact ⟨⟨h1.narrow hAB, h2.narrow hAB, fun z => h3 (hAB _ z)⟩, ⟨h4.narrow hAB, h5.narrow hAB⟩, h6⟩
theorem KZ.nn {G : gT} {zA : Nat × Nat} {A : Nat → Prop} {U : State} {H : Heap} (h : KZ G zA A U H) : NN U := h.2.2.2.2.2.1
theorem KZ.kx {G : gT} {zA : Nat × Nat} {A : Nat → Prop} {U : State} {H : Heap} (h : KZ G zA A U H) : KX U := h.2.2.2.2.2.2
def PHz (G : gT) (zA : Nat × Nat) (A : Nat → Prop) (as : List Value) (H0 : Heap) : Array Value → State → Prop := fun v U => v = as.toArray ∧ U.heap = H0 ∧ KK G U ∧ KZ G zA A U H0
theorem KZ.calling {G : gT} {zA : Nat × Nat} {A : Nat → Prop} {U : State} {H : Heap} {g : JFrame} {mk : MethodId} {a : Array Value} (h : KZ G zA A U H) : KZ G zA A (U.calling g mk a) H := by
  have hal : U.vm.Alike (U.calling g mk a).vm := Vm.Alike.refl U.vm
  obtain ⟨⟨h1, h2, h3⟩, ⟨h4, h5⟩, ⟨h6, h7, h8⟩, h9, h10, h11, h12⟩ := h
  exact ⟨⟨h1.moved hal, h2.moved hal, h3⟩, ⟨h4.moved hal, h5.moved hal⟩, ⟨h6.moved hal, h7.moved hal, h8.moved hal⟩, va_Nw.same rfl (u := U) (U := U.calling g mk a) rfl h9, va_Nw.same rfl (u := U) (U := U.calling g mk a) rfl h10, va_Nw.same rfl (u := U) (U := U.calling g mk a) rfl h11, h12.calling⟩
theorem PHz.blind {G : gT} {zA : Nat × Nat} {A : Nat → Prop} {as : List Value} {H0 : Heap} : FrameBlind (PHz G zA A as H0) := fun a U g mk q => by
  obtain ⟨q0, q1, qK, qZ⟩ := q
  exact ⟨q0, q1, va_K.moved (u := U) (U := U.calling g mk a) (Vm.Alike.refl U.vm) qK, qZ.calling⟩
theorem x_preVz {G : gT} {zA : Nat × Nat} {A : Nat → Prop} {s : State} {H : Heap} {C : String} {b : Nat} {As : List Value} (hK : KK G s) (hZ : KZ G zA A s H) (hr : ∃ cell : Cell, H[b]? = some cell ∧ cell.vm.isStatics = false ∧ s.vm.findClass C = some cell.cls) : PreV s H C b (PHz G zA A (.ref b :: As) H) As :=
  ⟨PHz.blind, hr, fun U hU hW => ⟨rfl, hU, hK.mv hW, hZ.mv hW⟩⟩
theorem x_preSz {G : gT} {zA : Nat × Nat} {A : Nat → Prop} {s : State} {H : Heap} {As : List Value} (hK : KK G s) (hZ : KZ G zA A s H) : PreS s H (PHz G zA A As H) As := ⟨PHz.blind, fun U hU hW => ⟨rfl, hU, hK.mv hW, hZ.mv hW⟩⟩
theorem x_headz {G : gT} {zA : Nat × Nat} {A : Nat → Prop} {l : Launch} {y : MethodName} {bytes : ByteArray} {maxL : Nat} {ret : Option FieldType} {ws ws' : List Cond} {rm : Room} {as : List Value} {H0 : Heap} {Ψ : Outcome → Heap → Prop} {mc ms : Nat} {free : Addr → Prop}
    (hy : plainName y.cls = true) (hw : ws = Cond.code y bytes maxL ret :: ws') (hn : (lg_sl as).length ≤ maxL)
    (body : ∀ (p : Program) (e : Env) (s : State) (m : MethodId) (below : List Frame) (meth : Method) (c : Code) (ls : Array Slot), p.tables.exec = Jvm.exec → c.code = bytes → c.maxLocals = maxL → s.vm.findClass y.cls = some m.cls → (∀ w ∈ ws, w.before as.toArray s = true) → meth.sig.returnType = ret → meth.locks = false → meth.name = y.name → KK G s → s.heap = H0 → lv_has ls maxL (lv_args 0 as) →
      ∀ Q : State → Prop, Q = MQ below (QH Ψ) as.toArray s mc ms free → KZ G zA A s H0 → W p l e rm s m as.toArray below meth c H0 [] 0 0 Q (F0 m 0 ls [])) : Met l y ws rm (PHz G zA A as H0) (QH Ψ) mc ms free := by
  refine Met.ofW (cc := bytes) (maxL := maxL) (ret := ret) hy hw ?_
  intro p e s m args below meth c s₁ B hml hv
  obtain ⟨rfl, hH, hK, hN⟩ := hv
  have hts := atoms_spec (ws := ws) B.pre
  have hl := lv_entry as (n := maxL) hn
  rw [lg_entry_eq, hH]
  exact body p e s m below meth c _ B.exec B.bytes hml (findClass_of_methodNamed B.named) hts B.returns B.notSynchronized (name_of_methodNamed B.named B.method).1 hK hH hl _ rfl hN
abbrev WzI (G : gT) (zA : Nat × Nat) (l : Launch) (y : MethodName) (ws : List Cond) (rm : Room) (as : List Value) (H0 : Heap) (A : Nat → Prop) (mc ms : Nat) (Φ : Int32 → Heap → Prop) : Prop := Met l y ws rm (PHz G zA A as H0) (QH (oI fun r H1 => fr A H0 H1 ∧ Φ r H1)) mc ms A
abbrev WzV (G : gT) (zA : Nat × Nat) (l : Launch) (y : MethodName) (ws : List Cond) (rm : Room) (as : List Value) (H0 : Heap) (A : Nat → Prop) (mc ms : Nat) (Φ : Heap → Prop) : Prop := Met l y ws rm (PHz G zA A as H0) (QH (oV fun H1 => fr A H0 H1 ∧ Φ H1)) mc ms A
abbrev WzA (G : gT) (zA : Nat × Nat) (l : Launch) (y : MethodName) (ws : List Cond) (rm : Room) (as : List Value) (H0 : Heap) (A : Nat → Prop) (mc ms : Nat) (Φ : Nat → Heap → Prop) : Prop := Met l y ws rm (PHz G zA A as H0) (QH (oA fun r H1 => fr A H0 H1 ∧ Φ r H1)) mc ms A
theorem x_tlen {p : Program} {l : Launch} {e : Env} {R : Room} {s : State} {m : MethodId} {args : Array Value} {below : List Frame} {meth : Method} {c : Code} {H : Heap} {locs : List Loc} {cells slots : Nat} {Q : State → Prop} {pc : Nat} {ls : Array Slot} {rest : List Value} {cc : ByteArray} {G : gT} {zA : Nat × Nat} {A : Nat → Prop} {H0 : Heap}
    (hexec : p.tables.exec = Jvm.exec) (hb : c.code = cc) (hs0 : s.heap = H0) (hZ : KZ G zA A s H0) (hS : va_S A H0 H locs) (hdg : decode cc pc = .ok (.arraylength, 1))
    (kk : W p l e R s m args below meth c H locs cells slots Q (F0 m (pc + 1) ls (.int (nI 0) :: rest))) : W p l e R s m args below meth c H locs cells slots Q (F0 m pc ls (.ref zA.1 :: rest)) := by
  subst hs0
  exact va_tlen hexec hb hZ.1.2.1 hS (v := nI 0) rfl hdg kk
