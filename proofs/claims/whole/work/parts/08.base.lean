-- ===== the base: classes, worlds, heads, calls in this claim's own words =====
abbrev vC : List vw_C := [(RX0, TX0, 4), (RX1, TX1, 11), (RX2, TX2, 8), (RX3, TX3, 5), (RX4, TX4, 11), (RJx4a65c, TJx4a65c, 3)]
/-- what the tables fix: the classes' numbers, their slots, the array classes' numbers (0 int, 1 Object, 2 long, 3 double) -/
abbrev gT : Type := (Nat → ClassId) × (Nat → Nat → Nat) × (Nat → ClassId)
abbrev gD (G : gT) : va_G := (G.1, G.2.1)
abbrev gY (G : gT) : List (ClassId × FieldType) := [(G.2.2 0, .int), (G.2.2 1, .object "java/lang/Object"), (G.2.2 2, .long), (G.2.2 3, .double)]
abbrev KK (G : gT) (U : State) : Prop := va_K (gD G) vC (gY G) U
theorem KK.mv {G : gT} {u U : State} (h : KK G u) (hW : u.WarmedH U.vm) : KK G U := va_K.moved hW.alike h
abbrev eI (G : gT) (n : Nat) (f : Nat → Int32) : va_E := .inl (G.2.2 0, n, .inl f)
abbrev eQ (G : gT) (n : Nat) (f : Nat → Option Nat) : va_E := .inl (G.2.2 1, n, .inr (.inr (.inr (.inr f))))
abbrev eL (G : gT) (n : Nat) (f : Nat → Int64) : va_E := .inl (G.2.2 2, n, .inr (.inl f))
abbrev eD (G : gT) (n : Nat) (f : Nat → UInt64) : va_E := .inl (G.2.2 3, n, .inr (.inr (.inr (.inl f))))
/-- the cell at a holds e -/
abbrev pt (G : gT) (a : Nat) (e : va_E) (H : Heap) : Prop := va_at (gD G) vC (a, e) H
def PH (G : gT) (as : List Value) (H0 : Heap) : Array Value → State → Prop := fun v U => v = as.toArray ∧ U.heap = H0 ∧ KK G U
def QH (Ψ : Outcome → Heap → Prop) : Array Value → State → Outcome → State → Prop := fun _ _ o t => Ψ o t.heap
def oI (Φ : Int32 → Heap → Prop) : Outcome → Heap → Prop := fun o H => ∃ r, o = .returned (some (.int r)) ∧ Φ r H
def oL (Φ : Int64 → Heap → Prop) : Outcome → Heap → Prop := fun o H => ∃ r, o = .returned (some (.long r)) ∧ Φ r H
def oD (Φ : UInt64 → Heap → Prop) : Outcome → Heap → Prop := fun o H => ∃ r, o = .returned (some (.double r)) ∧ Φ r H
def oA (Φ : Nat → Heap → Prop) : Outcome → Heap → Prop := fun o H => ∃ r, o = .returned (some (.ref r)) ∧ Φ r H
def oV (Φ : Heap → Prop) : Outcome → Heap → Prop := fun o H => o = .returned none ∧ Φ H
def oR (v : Value) (H0 : Heap) : Outcome → Heap → Prop := fun o H => o = .returned (some v) ∧ H = H0
/-- a reader: it answers v, the heap stays -/
abbrev Rd (G : gT) (l : Launch) (y : MethodName) (ws : List Cond) (rm : Room) (as : List Value) (H0 : Heap) (v : Value) : Prop := Met l y ws rm (PH G as H0) (QH (oR v H0)) 0 0 (fun _ => False)
theorem PH.blind {G : gT} {as : List Value} {H0 : Heap} : FrameBlind (PH G as H0) := fun a U g mk q => by
  obtain ⟨q0, q1, qK⟩ := q
  exact ⟨q0, q1, va_K.moved (u := U) (U := U.calling g mk a) (Vm.Alike.refl U.vm) qK⟩
theorem x_preV {G : gT} {s : State} {H : Heap} {C : String} {b : Nat} {As : List Value} (hK : KK G s) (hr : ∃ cell : Cell, H[b]? = some cell ∧ cell.vm.isStatics = false ∧ s.vm.findClass C = some cell.cls) : PreV s H C b (PH G (.ref b :: As) H) As :=
  ⟨PH.blind, hr, fun U hU hW => ⟨rfl, hU, hK.mv hW⟩⟩
theorem x_preS {G : gT} {s : State} {H : Heap} {As : List Value} (hK : KK G s) : PreS s H (PH G As H) As := ⟨PH.blind, fun U hU hW => ⟨rfl, hU, hK.mv hW⟩⟩
theorem x_recv {G : gT} {s : State} {H : Heap} {a ci : Nat} {fs : List Value} {q : vw_C} (hK : KK G s) (h : pt G a (.inr (ci, fs)) H) (hc : vC[ci]? = some q) : ∃ cell : Cell, H[a]? = some cell ∧ cell.vm.isStatics = false ∧ s.vm.findClass q.1 = some cell.cls :=
  va_recv (ws := [(a, .inr (ci, fs))]) hK (fun k r hk => by
    match k, hk with
    | 0, hk => cases hk; exact h) hc (q0 := 0) rfl
theorem x_one {G : gT} {a : Nat} {e : va_E} {H : Heap} (h : pt G a e H) : va_P (gD G) vC [(a, e)] H := fun k r hk => by
  match k, hk with
  | 0, hk => cases hk; exact h
theorem x_head {G : gT} {l : Launch} {y : MethodName} {bytes : ByteArray} {maxL : Nat} {ret : Option FieldType} {ws ws' : List Cond} {rm : Room} {as : List Value} {H0 : Heap} {Ψ : Outcome → Heap → Prop} {mc ms : Nat} {free : Addr → Prop}
    (hy : plainName y.cls = true) (hw : ws = Cond.code y bytes maxL ret :: ws') (hn : (lg_sl as).length ≤ maxL)
    (body : ∀ (p : Program) (e : Env) (s : State) (m : MethodId) (below : List Frame) (meth : Method) (c : Code) (ls : Array Slot), p.tables.exec = Jvm.exec → c.code = bytes → c.maxLocals = maxL → s.vm.findClass y.cls = some m.cls → (∀ w ∈ ws, w.before as.toArray s = true) → meth.sig.returnType = ret → meth.locks = false → meth.name = y.name → KK G s → s.heap = H0 → lv_has ls maxL (lv_args 0 as) →
      ∀ Q : State → Prop, Q = MQ below (QH Ψ) as.toArray s mc ms free → W p l e rm s m as.toArray below meth c H0 [] 0 0 Q (F0 m 0 ls [])) : Met l y ws rm (PH G as H0) (QH Ψ) mc ms free := by
  refine Met.ofW (cc := bytes) (maxL := maxL) (ret := ret) hy hw ?_
  intro p e s m args below meth c s₁ B hml hv
  obtain ⟨rfl, hH, hK⟩ := hv
  have hts := atoms_spec (ws := ws) B.pre
  have hl := lv_entry as (n := maxL) hn
  rw [lg_entry_eq, hH]
  exact body p e s m below meth c _ B.exec B.bytes hml (findClass_of_methodNamed B.named) hts B.returns B.notSynchronized (name_of_methodNamed B.named B.method).1 hK hH hl _ rfl
/-- what a writer leaves alone -/
def fr (A : Nat → Prop) (H0 H1 : Heap) : Prop := H0.size ≤ H1.size ∧ ∀ q : Nat, q < H0.size → ¬ A q → H1[q]? = H0[q]?
theorem va_S.fr {A : Nat → Prop} {H0 H : Heap} {locs : List Loc} (h : va_S A H0 H locs) : fr A H0 H := ⟨h.1, h.2.1⟩
theorem va_D.same {A : Nat → Prop} {ws ws' : va_W} (h : va_D A ws) (e : ws.map Prod.fst = ws'.map Prod.fst) : va_D A ws' := by
  have key : ∀ (k : Nat) (q : Nat × va_E), ws'[k]? = some q → ∃ q0, ws[k]? = some q0 ∧ q0.1 = q.1 := by
    intro k q hk
    have h1 : (ws'.map Prod.fst)[k]? = some q.1 := by rw [List.getElem?_map, hk]; rfl
    rw [← e, List.getElem?_map] at h1
    cases hi : ws[k]? with
    | none => rw [hi] at h1; cases h1
    | some q0 => rw [hi] at h1; exact ⟨q0, rfl, Option.some.inj h1⟩
  refine ⟨fun i j p q hi hj hpq => ?_, fun k q hk => ?_⟩
  · obtain ⟨p0, h1, h2⟩ := key i p hi
    obtain ⟨q0, h3, h4⟩ := key j q hj
    exact h.1 i j p0 q0 h1 h3 (h2.trans (hpq.trans h4.symm))
  · obtain ⟨q0, h1, h2⟩ := key k q hk
    rw [← h2]
    exact h.2 k q0 h1
section XRUN
variable {p : Program} {l : Launch} {e : Env} {R : Room} {s : State} {m : MethodId} {args : Array Value} {below : List Frame} {meth : Method} {c : Code} {H : Heap} {locs : List Loc} {cells slots : Nat} {Q : State → Prop} {pc : Nat} {ls : Array Slot} {rest st0 : List Value} {a : Array Value} {mc ms : Nat} {free : Addr → Prop}
theorem x_run {A0 A1 : Nat → Prop} {H0 : Heap} {Ψ : Outcome → Heap → Prop} (hr : va_Run p l e R s m args below meth c H locs cells slots mc ms (F0 m pc ls st0) rest (QH Ψ a) A1) (hS : va_S A0 H0 H locs) (hA : ∀ q, A1 q → A0 q) (hF : ∀ v H1, Ψ (.returned v) H1 → fr A1 H H1)
    (kk : ∀ (v : Option Value) (H1 : Heap) (locs1 : List Loc), Ψ (.returned v) H1 → va_S A0 H0 H1 locs1 → W p l e R s m args below meth c H1 locs1 (cells + mc) (slots + ms) Q (F0 m (pc + 3) ls (v.toList ++ rest))) : W p l e R s m args below meth c H locs cells slots Q (F0 m pc ls st0) := by
  intro T hT X
  obtain ⟨v, st₀, t, T', L, h0, X', hL', e1, e2, hq, st⟩ := hr T hT X
  have hf := hF v t.heap hq
  rw [← e1] at hf
  obtain ⟨t2, a1, b1⟩ := kk v T'.heap (locs ++ L) (by rw [e1]; exact hq) ⟨Nat.le_trans hS.1 hf.1, fun q h1 h2 => by rw [hf.2 q (Nat.lt_of_lt_of_le h1 hS.1) (fun z => h2 (hA q z))]; exact hS.2.1 q h1 h2, fun q h => by
    rcases List.mem_append.mp h with h | h
    · exact hS.2.2 q h
    · exact hA _ (hL' q h)⟩ T' rfl X'
  exact ⟨t2, st t2 a1, b1⟩
theorem x_runi {A0 A1 : Nat → Prop} {H0 : Heap} {Φ : Int32 → Heap → Prop} (hr : va_Run p l e R s m args below meth c H locs cells slots mc ms (F0 m pc ls st0) rest (QH (oI fun r H1 => fr A1 H H1 ∧ Φ r H1) a) A1) (hS : va_S A0 H0 H locs) (hA : ∀ q, A1 q → A0 q)
    (kk : ∀ (r : Int32) (H1 : Heap) (locs1 : List Loc), fr A1 H H1 → Φ r H1 → va_S A0 H0 H1 locs1 → W p l e R s m args below meth c H1 locs1 (cells + mc) (slots + ms) Q (F0 m (pc + 3) ls (.int r :: rest))) : W p l e R s m args below meth c H locs cells slots Q (F0 m pc ls st0) :=
  x_run hr hS hA (fun v H1 h => by obtain ⟨r, -, h, -⟩ := h; exact h) (fun v H1 locs1 h hL1 => by obtain ⟨r, hv, h1, h⟩ := h; cases hv; exact kk r H1 locs1 h1 h hL1)
theorem x_runl {A0 A1 : Nat → Prop} {H0 : Heap} {Φ : Int64 → Heap → Prop} (hr : va_Run p l e R s m args below meth c H locs cells slots mc ms (F0 m pc ls st0) rest (QH (oL fun r H1 => fr A1 H H1 ∧ Φ r H1) a) A1) (hS : va_S A0 H0 H locs) (hA : ∀ q, A1 q → A0 q)
    (kk : ∀ (r : Int64) (H1 : Heap) (locs1 : List Loc), fr A1 H H1 → Φ r H1 → va_S A0 H0 H1 locs1 → W p l e R s m args below meth c H1 locs1 (cells + mc) (slots + ms) Q (F0 m (pc + 3) ls (.long r :: rest))) : W p l e R s m args below meth c H locs cells slots Q (F0 m pc ls st0) :=
  x_run hr hS hA (fun v H1 h => by obtain ⟨r, -, h, -⟩ := h; exact h) (fun v H1 locs1 h hL1 => by obtain ⟨r, hv, h1, h⟩ := h; cases hv; exact kk r H1 locs1 h1 h hL1)
theorem x_rund {A0 A1 : Nat → Prop} {H0 : Heap} {Φ : UInt64 → Heap → Prop} (hr : va_Run p l e R s m args below meth c H locs cells slots mc ms (F0 m pc ls st0) rest (QH (oD fun r H1 => fr A1 H H1 ∧ Φ r H1) a) A1) (hS : va_S A0 H0 H locs) (hA : ∀ q, A1 q → A0 q)
    (kk : ∀ (r : UInt64) (H1 : Heap) (locs1 : List Loc), fr A1 H H1 → Φ r H1 → va_S A0 H0 H1 locs1 → W p l e R s m args below meth c H1 locs1 (cells + mc) (slots + ms) Q (F0 m (pc + 3) ls (.double r :: rest))) : W p l e R s m args below meth c H locs cells slots Q (F0 m pc ls st0) :=
  x_run hr hS hA (fun v H1 h => by obtain ⟨r, -, h, -⟩ := h; exact h) (fun v H1 locs1 h hL1 => by obtain ⟨r, hv, h1, h⟩ := h; cases hv; exact kk r H1 locs1 h1 h hL1)
theorem x_runr {A0 A1 : Nat → Prop} {H0 : Heap} {Φ : Nat → Heap → Prop} (hr : va_Run p l e R s m args below meth c H locs cells slots mc ms (F0 m pc ls st0) rest (QH (oA fun r H1 => fr A1 H H1 ∧ Φ r H1) a) A1) (hS : va_S A0 H0 H locs) (hA : ∀ q, A1 q → A0 q)
    (kk : ∀ (r : Nat) (H1 : Heap) (locs1 : List Loc), fr A1 H H1 → Φ r H1 → va_S A0 H0 H1 locs1 → W p l e R s m args below meth c H1 locs1 (cells + mc) (slots + ms) Q (F0 m (pc + 3) ls (.ref r :: rest))) : W p l e R s m args below meth c H locs cells slots Q (F0 m pc ls st0) :=
  x_run hr hS hA (fun v H1 h => by obtain ⟨r, -, h, -⟩ := h; exact h) (fun v H1 locs1 h hL1 => by obtain ⟨r, hv, h1, h⟩ := h; cases hv; exact kk r H1 locs1 h1 h hL1)
theorem x_runv {A0 A1 : Nat → Prop} {H0 : Heap} {Φ : Heap → Prop} (hr : va_Run p l e R s m args below meth c H locs cells slots mc ms (F0 m pc ls st0) rest (QH (oV fun H1 => fr A1 H H1 ∧ Φ H1) a) A1) (hS : va_S A0 H0 H locs) (hA : ∀ q, A1 q → A0 q)
    (kk : ∀ (H1 : Heap) (locs1 : List Loc), fr A1 H H1 → Φ H1 → va_S A0 H0 H1 locs1 → W p l e R s m args below meth c H1 locs1 (cells + mc) (slots + ms) Q (F0 m (pc + 3) ls rest)) : W p l e R s m args below meth c H locs cells slots Q (F0 m pc ls st0) :=
  x_run hr hS hA (fun v H1 h => by obtain ⟨-, h, -⟩ := h; exact h) (fun v H1 locs1 h hL1 => by obtain ⟨hv, h1, h⟩ := h; cases hv; exact kk H1 locs1 h1 h hL1)
/-- a call of a reader -/
theorem x_rd {v : Value} (hr : va_Run p l e R s m args below meth c H locs cells slots 0 0 (F0 m pc ls st0) rest (QH (oR v H) a) (fun _ => False))
    (kk : W p l e R s m args below meth c H locs cells slots Q (F0 m (pc + 3) ls (v :: rest))) : W p l e R s m args below meth c H locs cells slots Q (F0 m pc ls st0) := by
  intro T hT X
  obtain ⟨v', st₀, t, T', L, h0, X', hL', e1, e2, ⟨hv, hh⟩, st⟩ := hr T hT X
  cases hv
  have hL0 : L = [] := by
    cases L with
    | nil => rfl
    | cons x xs => exact (hL' x List.mem_cons_self).elim
  subst hL0
  rw [List.append_nil] at X'
  obtain ⟨t2, a1, b1⟩ := kk T' (by rw [e1, hh]) X'
  exact ⟨t2, st t2 a1, b1⟩
variable {cc : ByteArray} {G : gT}
theorem x_get (hexec : p.tables.exec = Jvm.exec) (hb : c.code = cc) {own ref C : String} {T : u_T} {N ci index : Nat} {Ts : List Cond} (hts : ∀ w ∈ Ts, w.before args s = true) (hin : ∀ w ∈ u_ws C T N, w ∈ Ts) (hown : s.vm.findClass own = some m.cls) (hK : KK G s) {x : Nat} {fs : List Value} (hat : pt G x (.inr (ci, fs)) H) (hc : vC[ci]? = some (C, T, N)) (k : Nat) (hk : k < N) (hlink : (Cond.fieldLink own index ref (T k).2.1 (T k).2.2.1).before args s = true) (hsame : ∀ x, s.fieldFound? (T k).1 (T k).2.1 (T k).2.2.1 = some x → s.fieldFound? ref (T k).2.1 (T k).2.2.1 = some x) {v : Value} (hv : fs[k]? = some v) (hdg : decode cc pc = .ok (.getfield index, 3))
    (kk : W p l e R s m args below meth c H locs cells slots Q (F0 m (pc + 3) ls (v :: rest))) : W p l e R s m args below meth c H locs cells slots Q (F0 m pc ls (.ref x :: rest)) :=
  va_get hexec hb hts hin hown hK (x_one hat) 0 rfl hc k hk hlink hsame hv hdg kk
theorem x_iald (hexec : p.tables.exec = Jvm.exec) (hb : c.code = cc) (hK : KK G s) {x n : Nat} {f : Nat → Int32} (hat : pt G x (eI G n f) H) {i : Int32} (hin : vp_in i n) (hdg : decode cc pc = .ok (.iaload, 1))
    (kk : W p l e R s m args below meth c H locs cells slots Q (F0 m (pc + 1) ls (.int (f i.toNatClampNeg) :: rest))) : W p l e R s m args below meth c H locs cells slots Q (F0 m pc ls (.int i :: .ref x :: rest)) :=
  va_iald hexec hb hK (x_one hat) 0 0 rfl rfl hin hdg kk
theorem x_ialdN (hexec : p.tables.exec = Jvm.exec) (hb : c.code = cc) (hK : KK G s) {x n : Nat} {f : Nat → Int32} (hat : pt G x (eI G n f) H) {i : Nat} (hin : i < n) (hn : n < 2 ^ 31) (hdg : decode cc pc = .ok (.iaload, 1))
    (kk : W p l e R s m args below meth c H locs cells slots Q (F0 m (pc + 1) ls (.int (f i) :: rest))) : W p l e R s m args below meth c H locs cells slots Q (F0 m pc ls (.int (nI i) :: .ref x :: rest)) :=
  x_iald hexec hb hK hat (vp_in_nI hin hn) hdg (by rw [nI_clamp (by omega)]; exact kk)
theorem x_alen (hexec : p.tables.exec = Jvm.exec) (hb : c.code = cc) (hK : KK G s) {x t0 : Nat} {cA : ClassId} {ax : vp_A} {ty : FieldType} (hat : pt G x (.inl (cA, ax)) H) (ht : (gY G)[t0]? = some (cA, ty)) (hdg : decode cc pc = .ok (.arraylength, 1))
    (kk : W p l e R s m args below meth c H locs cells slots Q (F0 m (pc + 1) ls (.int (nI ax.1) :: rest))) : W p l e R s m args below meth c H locs cells slots Q (F0 m pc ls (.ref x :: rest)) :=
  va_alen hexec hb hK (x_one hat) 0 t0 rfl ht rfl hdg kk
theorem x_aald (hexec : p.tables.exec = Jvm.exec) (hb : c.code = cc) (hK : KK G s) {x n : Nat} {f : Nat → Option Nat} (hat : pt G x (eQ G n f) H) {i : Nat} (hin : i < n) (hn : n < 2 ^ 31) (hdg : decode cc pc = .ok (.aaload, 1))
    (kk : W p l e R s m args below meth c H locs cells slots Q (F0 m (pc + 1) ls (va_rf (f i) :: rest))) : W p l e R s m args below meth c H locs cells slots Q (F0 m pc ls (.int (nI i) :: .ref x :: rest)) :=
  va_aldq hexec hb hK (x_one hat) 0 1 rfl rfl (vp_in_nI hin hn) hdg (by rw [nI_clamp (by omega)]; exact kk)
/-- small naturals: sums, differences, products, comparisons -/
theorem x_iaddN (hexec : p.tables.exec = Jvm.exec) (hb : c.code = cc) {x y : Nat} (hdg : decode cc pc = .ok (.iadd, 1))
    (k : W p l e R s m args below meth c H locs cells slots Q (F0 m (pc + 1) ls (.int (nI (x + y)) :: rest))) : W p l e R s m args below meth c H locs cells slots Q (F0 m pc ls (.int (nI y) :: .int (nI x) :: rest)) :=
  lv_iadd hexec hb hdg (by rw [nI_add]; exact k)
theorem x_isubN (hexec : p.tables.exec = Jvm.exec) (hb : c.code = cc) {x y : Nat} (hdg : decode cc pc = .ok (.isub, 1)) (h : y ≤ x)
    (k : W p l e R s m args below meth c H locs cells slots Q (F0 m (pc + 1) ls (.int (nI (x - y)) :: rest))) : W p l e R s m args below meth c H locs cells slots Q (F0 m pc ls (.int (nI y) :: .int (nI x) :: rest)) :=
  lv_isub hexec hb hdg (by rw [pk_sub h]; exact k)
theorem x_imulN (hexec : p.tables.exec = Jvm.exec) (hb : c.code = cc) {x y : Nat} (hdg : decode cc pc = .ok (.imul, 1))
    (k : W p l e R s m args below meth c H locs cells slots Q (F0 m (pc + 1) ls (.int (nI (x * y)) :: rest))) : W p l e R s m args below meth c H locs cells slots Q (F0 m pc ls (.int (nI y) :: .int (nI x) :: rest)) :=
  lv_imul hexec hb hdg (by rw [pk_mul]; exact k)
theorem x_idivN (hexec : p.tables.exec = Jvm.exec) (hb : c.code = cc) {x y : Nat} (hdg : decode cc pc = .ok (.idiv, 1)) (hx : x < 2 ^ 31) (h0 : 0 < y) (hy : y < 2 ^ 31)
    (k : W p l e R s m args below meth c H locs cells slots Q (F0 m (pc + 1) ls (.int (nI (x / y)) :: rest))) : W p l e R s m args below meth c H locs cells slots Q (F0 m pc ls (.int (nI y) :: .int (nI x) :: rest)) :=
  lv_idiv hexec hb hdg (nI_ne0 h0 hy) (by rw [pk_div hx h0 hy]; exact k)
theorem x_icmp_ge (hexec : p.tables.exec = Jvm.exec) (hb : c.code = cc) {x y : Nat} (hxs : x < 2 ^ 31) (hys : y < 2 ^ 31) {off : Int} {tgt : Nat} (hdg : decode cc pc = .ok (.if_icmp .ge off, 3)) (ht : (pc : Int) + off = (tgt : Int))
    (kt : y ≤ x → W p l e R s m args below meth c H locs cells slots Q (F0 m tgt ls rest)) (kf : x < y → W p l e R s m args below meth c H locs cells slots Q (F0 m (pc + 3) ls rest)) : W p l e R s m args below meth c H locs cells slots Q (F0 m pc ls (.int (nI y) :: .int (nI x) :: rest)) :=
  lv_icmp_ge hexec hb hdg ht (fun h => kt ((nI_leI hys hxs).mp h)) (fun h => kf (by have := mt (nI_leI hys hxs).mpr h; omega))
theorem x_icmp_lt (hexec : p.tables.exec = Jvm.exec) (hb : c.code = cc) {x y : Nat} (hxs : x < 2 ^ 31) (hys : y < 2 ^ 31) {off : Int} {tgt : Nat} (hdg : decode cc pc = .ok (.if_icmp .lt off, 3)) (ht : (pc : Int) + off = (tgt : Int))
    (kt : x < y → W p l e R s m args below meth c H locs cells slots Q (F0 m tgt ls rest)) (kf : y ≤ x → W p l e R s m args below meth c H locs cells slots Q (F0 m (pc + 3) ls rest)) : W p l e R s m args below meth c H locs cells slots Q (F0 m pc ls (.int (nI y) :: .int (nI x) :: rest)) :=
  lv_icmp_lt hexec hb hdg ht (fun h => kt ((nI_ltI hxs hys).mp h)) (fun h => kf (by have := mt (nI_ltI hxs hys).mpr h; omega))
theorem x_icmp_gt (hexec : p.tables.exec = Jvm.exec) (hb : c.code = cc) {x y : Nat} (hxs : x < 2 ^ 31) (hys : y < 2 ^ 31) {off : Int} {tgt : Nat} (hdg : decode cc pc = .ok (.if_icmp .gt off, 3)) (ht : (pc : Int) + off = (tgt : Int))
    (kt : y < x → W p l e R s m args below meth c H locs cells slots Q (F0 m tgt ls rest)) (kf : x ≤ y → W p l e R s m args below meth c H locs cells slots Q (F0 m (pc + 3) ls rest)) : W p l e R s m args below meth c H locs cells slots Q (F0 m pc ls (.int (nI y) :: .int (nI x) :: rest)) :=
  lv_icmp_gt hexec hb hdg ht (fun h => kt ((nI_ltI hys hxs).mp h)) (fun h => kf (by have := mt (nI_ltI hys hxs).mpr h; omega))
theorem x_icmp_le (hexec : p.tables.exec = Jvm.exec) (hb : c.code = cc) {x y : Nat} (hxs : x < 2 ^ 31) (hys : y < 2 ^ 31) {off : Int} {tgt : Nat} (hdg : decode cc pc = .ok (.if_icmp .le off, 3)) (ht : (pc : Int) + off = (tgt : Int))
    (kt : x ≤ y → W p l e R s m args below meth c H locs cells slots Q (F0 m tgt ls rest)) (kf : y < x → W p l e R s m args below meth c H locs cells slots Q (F0 m (pc + 3) ls rest)) : W p l e R s m args below meth c H locs cells slots Q (F0 m pc ls (.int (nI y) :: .int (nI x) :: rest)) :=
  lv_icmp_le hexec hb hdg ht (fun h => kt ((nI_leI hxs hys).mp h)) (fun h => kf (by have := mt (nI_leI hxs hys).mpr h; omega))
theorem x_icmp_eq (hexec : p.tables.exec = Jvm.exec) (hb : c.code = cc) {x y : Nat} (hxs : x < 2 ^ 31) (hys : y < 2 ^ 31) {off : Int} {tgt : Nat} (hdg : decode cc pc = .ok (.if_icmp .eq off, 3)) (ht : (pc : Int) + off = (tgt : Int))
    (kt : x = y → W p l e R s m args below meth c H locs cells slots Q (F0 m tgt ls rest)) (kf : ¬ x = y → W p l e R s m args below meth c H locs cells slots Q (F0 m (pc + 3) ls rest)) : W p l e R s m args below meth c H locs cells slots Q (F0 m pc ls (.int (nI y) :: .int (nI x) :: rest)) :=
  lv_icmp_eq hexec hb hdg ht (fun h => kt ((nI_eq hxs hys).mp h)) (fun h => kf (mt (nI_eq hxs hys).mpr h))
theorem x_icmp_ne (hexec : p.tables.exec = Jvm.exec) (hb : c.code = cc) {x y : Nat} (hxs : x < 2 ^ 31) (hys : y < 2 ^ 31) {off : Int} {tgt : Nat} (hdg : decode cc pc = .ok (.if_icmp .ne off, 3)) (ht : (pc : Int) + off = (tgt : Int))
    (kt : ¬ x = y → W p l e R s m args below meth c H locs cells slots Q (F0 m tgt ls rest)) (kf : x = y → W p l e R s m args below meth c H locs cells slots Q (F0 m (pc + 3) ls rest)) : W p l e R s m args below meth c H locs cells slots Q (F0 m pc ls (.int (nI y) :: .int (nI x) :: rest)) :=
  lv_icmp_ne hexec hb hdg ht (fun h => kt (fun z => h ((nI_eq hxs hys).mpr z))) (fun h => kf ((nI_eq hxs hys).mp h))
/-- ends -/
theorem x_rdi {cA : ByteArray} {v : Int32} {ty : FieldType} {w : Value} (hQ : Q = MQ below (QH (oR w H)) args s 0 0 (fun _ => False)) (hexec : p.tables.exec = Jvm.exec) (hb : c.code = cA) (hr : meth.sig.returnType = some ty) (hn : narrow ty (.int v) = .int v) (hlocks : meth.locks = false) (hv : Value.int v = w)
    {pc : Nat} {ls : Array Slot} (hdg : decode cA pc = .ok (.ireturn, 1)) : W p l e R s m args below meth c H [] 0 0 Q (F0 m pc ls [.int v]) := by
  subst hv hQ
  exact W.zret hexec hb hr hn (fun t ht _ => ⟨rfl, ht⟩) (fun q h => by cases h) hdg hlocks
theorem x_rdl {cA : ByteArray} {v : Int64} {w : Value} (hQ : Q = MQ below (QH (oR w H)) args s 0 0 (fun _ => False)) (hexec : p.tables.exec = Jvm.exec) (hb : c.code = cA) (hr : meth.sig.returnType = some .long) (hlocks : meth.locks = false) (hv : Value.long v = w)
    {pc : Nat} {ls : Array Slot} (hdg : decode cA pc = .ok (.lreturn, 1)) : W p l e R s m args below meth c H [] 0 0 Q (F0 m pc ls [.long v]) := by
  subst hv hQ
  exact W.lret hexec hb hr (fun t ht _ => ⟨rfl, ht⟩) (fun q h => by cases h) hdg hlocks
theorem x_rda {cA : ByteArray} {v w : Value} {rt : FieldType} (hQ : Q = MQ below (QH (oR w H)) args s 0 0 (fun _ => False)) (hexec : p.tables.exec = Jvm.exec) (hb : c.code = cA) (hr : meth.sig.returnType = some rt) (hrt : (∃ n, rt = .object n) ∨ ∃ t, rt = .array t) (hlocks : meth.locks = false) (hvr : v = .null ∨ ∃ a, v = .ref a) (hv : v = w)
    {pc : Nat} {ls : Array Slot} (hdg : decode cA pc = .ok (.areturn, 1)) : W p l e R s m args below meth c H [] 0 0 Q (F0 m pc ls [v]) := by
  subst hv hQ
  exact W.aret hexec hb hr hrt hvr (fun t ht _ => ⟨rfl, ht⟩) (fun q h => by cases h) hdg hlocks
theorem x_iret {cA : ByteArray} {v : Int32} {ty : FieldType} {Φ : Int32 → Heap → Prop} (hQ : Q = MQ below (QH (oI Φ)) args s cells slots free) (hexec : p.tables.exec = Jvm.exec) (hb : c.code = cA) (hr : meth.sig.returnType = some ty) (hn : narrow ty (.int v) = .int v) (hlocks : meth.locks = false) (hf : ∀ q ∈ locs, free q.base)
    {pc : Nat} {ls : Array Slot} (hdg : decode cA pc = .ok (.ireturn, 1)) (hq : Φ v H) : W p l e R s m args below meth c H locs cells slots Q (F0 m pc ls [.int v]) := by
  subst hQ
  exact W.zret hexec hb hr hn (fun t ht _ => ⟨v, rfl, by rw [ht]; exact hq⟩) hf hdg hlocks
theorem x_lret {cA : ByteArray} {v : Int64} {Φ : Int64 → Heap → Prop} (hQ : Q = MQ below (QH (oL Φ)) args s cells slots free) (hexec : p.tables.exec = Jvm.exec) (hb : c.code = cA) (hr : meth.sig.returnType = some .long) (hlocks : meth.locks = false) (hf : ∀ q ∈ locs, free q.base)
    {pc : Nat} {ls : Array Slot} (hdg : decode cA pc = .ok (.lreturn, 1)) (hq : Φ v H) : W p l e R s m args below meth c H locs cells slots Q (F0 m pc ls [.long v]) := by
  subst hQ
  exact W.lret hexec hb hr (fun t ht _ => ⟨v, rfl, by rw [ht]; exact hq⟩) hf hdg hlocks
theorem x_dret {cA : ByteArray} {v : UInt64} {Φ : UInt64 → Heap → Prop} (hQ : Q = MQ below (QH (oD Φ)) args s cells slots free) (hexec : p.tables.exec = Jvm.exec) (hb : c.code = cA) (hr : meth.sig.returnType = some .double) (hlocks : meth.locks = false) (hf : ∀ q ∈ locs, free q.base)
    {pc : Nat} {ls : Array Slot} (hdg : decode cA pc = .ok (.dreturn, 1)) (hq : Φ v H) : W p l e R s m args below meth c H locs cells slots Q (F0 m pc ls [.double v]) := by
  subst hQ
  exact W.dret hexec hb hr (fun t ht _ => ⟨v, rfl, by rw [ht]; exact hq⟩) hf hdg hlocks
theorem x_vret {cA : ByteArray} {Φ : Heap → Prop} (hQ : Q = MQ below (QH (oV Φ)) args s cells slots free) (hexec : p.tables.exec = Jvm.exec) (hb : c.code = cA) (hr : meth.sig.returnType = none) (hlocks : meth.locks = false) (hf : ∀ q ∈ locs, free q.base)
    {pc : Nat} {ls : Array Slot} (hdg : decode cA pc = .ok (.return_, 1)) (hq : Φ H) : W p l e R s m args below meth c H locs cells slots Q (F0 m pc ls []) := by
  subst hQ
  exact W.vret hexec hb hr (fun t ht _ => ⟨rfl, by rw [ht]; exact hq⟩) hf hdg hlocks
end XRUN
/-- a boolean as the machine holds it -/
def bI (b : Bool) : Int32 := if b then 1 else 0
theorem bI_1 : bI true = 1 := rfl
theorem bI_0 : bI false = 0 := rfl
/-- Math.abs, max, min as the library tells them -/
def ab (x : Int32) : Int32 := if 0 ≤ x then x else 0 - x
def mx (x y : Int32) : Int32 := if x < y then y else x
def mn (x y : Int32) : Int32 := if y < x then y else x
section XIF
variable {p : Program} {l : Launch} {e : Env} {R : Room} {s : State} {m : MethodId} {args : Array Value} {below : List Frame} {meth : Method} {c : Code} {H : Heap} {locs : List Loc} {cells slots : Nat} {Q : State → Prop} {pc : Nat} {ls : Array Slot} {rest : List Value} {cc : ByteArray}
theorem x_if_eqB (hexec : p.tables.exec = Jvm.exec) (hb : c.code = cc) {x : Bool} {off : Int} {tgt : Nat} (hdg : decode cc pc = .ok (.ifCond .eq off, 3)) (ht : (pc : Int) + off = (tgt : Int))
    (kt : x = false → W p l e R s m args below meth c H locs cells slots Q (F0 m tgt ls rest)) (kf : x = true → W p l e R s m args below meth c H locs cells slots Q (F0 m (pc + 3) ls rest)) : W p l e R s m args below meth c H locs cells slots Q (F0 m pc ls (.int (bI x) :: rest)) :=
  lv_if_eq hexec hb hdg ht (fun h => kt (by cases x with | false => rfl | true => exact absurd h (by decide))) (fun h => kf (by cases x with | false => exact absurd rfl h | true => rfl))
theorem x_if_neB (hexec : p.tables.exec = Jvm.exec) (hb : c.code = cc) {x : Bool} {off : Int} {tgt : Nat} (hdg : decode cc pc = .ok (.ifCond .ne off, 3)) (ht : (pc : Int) + off = (tgt : Int))
    (kt : x = true → W p l e R s m args below meth c H locs cells slots Q (F0 m tgt ls rest)) (kf : x = false → W p l e R s m args below meth c H locs cells slots Q (F0 m (pc + 3) ls rest)) : W p l e R s m args below meth c H locs cells slots Q (F0 m pc ls (.int (bI x) :: rest)) :=
  lv_if_ne hexec hb hdg ht (fun h => kt (by cases x with | false => exact absurd rfl h | true => rfl)) (fun h => kf (by cases x with | false => rfl | true => exact absurd h (by decide)))
theorem x_if_leN (hexec : p.tables.exec = Jvm.exec) (hb : c.code = cc) {x : Nat} (hx : x < 2 ^ 31) {off : Int} {tgt : Nat} (hdg : decode cc pc = .ok (.ifCond .le off, 3)) (ht : (pc : Int) + off = (tgt : Int))
    (kt : x = 0 → W p l e R s m args below meth c H locs cells slots Q (F0 m tgt ls rest)) (kf : 0 < x → W p l e R s m args below meth c H locs cells slots Q (F0 m (pc + 3) ls rest)) : W p l e R s m args below meth c H locs cells slots Q (F0 m pc ls (.int (nI x) :: rest)) :=
  lv_if_le hexec hb hdg ht (fun h => kt (by rcases Nat.eq_zero_or_pos x with h1 | h1; exact h1; exact absurd h (nI_nle h1 hx))) (fun h => kf (by rcases Nat.eq_zero_or_pos x with h1 | h1; (subst h1; exact absurd (by decide) h); exact h1))
theorem x_if_neN (hexec : p.tables.exec = Jvm.exec) (hb : c.code = cc) {x : Nat} (hx : x < 2 ^ 31) {off : Int} {tgt : Nat} (hdg : decode cc pc = .ok (.ifCond .ne off, 3)) (ht : (pc : Int) + off = (tgt : Int))
    (kt : 0 < x → W p l e R s m args below meth c H locs cells slots Q (F0 m tgt ls rest)) (kf : x = 0 → W p l e R s m args below meth c H locs cells slots Q (F0 m (pc + 3) ls rest)) : W p l e R s m args below meth c H locs cells slots Q (F0 m pc ls (.int (nI x) :: rest)) :=
  lv_if_ne hexec hb hdg ht (fun h => kt (by rcases Nat.eq_zero_or_pos x with h1 | h1; (subst h1; exact absurd rfl h); exact h1)) (fun h => kf (by rcases Nat.eq_zero_or_pos x with h1 | h1; exact h1; exact absurd h (nI_ne0 h1 hx)))
theorem x_if_eqN (hexec : p.tables.exec = Jvm.exec) (hb : c.code = cc) {x : Nat} (hx : x < 2 ^ 31) {off : Int} {tgt : Nat} (hdg : decode cc pc = .ok (.ifCond .eq off, 3)) (ht : (pc : Int) + off = (tgt : Int))
    (kt : x = 0 → W p l e R s m args below meth c H locs cells slots Q (F0 m tgt ls rest)) (kf : 0 < x → W p l e R s m args below meth c H locs cells slots Q (F0 m (pc + 3) ls rest)) : W p l e R s m args below meth c H locs cells slots Q (F0 m pc ls (.int (nI x) :: rest)) :=
  lv_if_eq hexec hb hdg ht (fun h => kt (by rcases Nat.eq_zero_or_pos x with h1 | h1; exact h1; exact absurd h (nI_ne0 h1 hx))) (fun h => kf (by rcases Nat.eq_zero_or_pos x with h1 | h1; (subst h1; exact absurd rfl h); exact h1))
end XIF
theorem nI_dec {k : Nat} (h : 0 < k) : nI k + Int32.ofInt (-1) = nI (k - 1) := by
  obtain ⟨j, rfl⟩ : ∃ j, k = j + 1 := ⟨k - 1, by omega⟩
  exact pk_m1 j
theorem nI_incn (k : Nat) : nI k + Int32.ofInt 1 = nI (k + 1) := nI_1 k
abbrev WrI (G : gT) (l : Launch) (y : MethodName) (ws : List Cond) (rm : Room) (as : List Value) (H0 : Heap) (A : Nat → Prop) (Φ : Int32 → Heap → Prop) : Prop := Met l y ws rm (PH G as H0) (QH (oI fun r H1 => fr A H0 H1 ∧ Φ r H1)) 0 0 A
abbrev WrV (G : gT) (l : Launch) (y : MethodName) (ws : List Cond) (rm : Room) (as : List Value) (H0 : Heap) (A : Nat → Prop) (Φ : Heap → Prop) : Prop := Met l y ws rm (PH G as H0) (QH (oV fun H1 => fr A H0 H1 ∧ Φ H1)) 0 0 A
