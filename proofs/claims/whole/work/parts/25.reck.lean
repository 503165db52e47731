-- ===== what stands while a reckoning is written: lists, stations, halos, all in ro =====
def alX (G : gT) (ro : Nat → Prop) (a : Nat) (f : Nat → Nat) (n : Nat) (H : Heap) : Prop := ∃ (mc : Int32) (ea cap : Nat) (g : Nat → Option Nat), (pt G a (alO mc ea n) H ∧ n ≤ cap ∧ cap ≤ 100 ∧ (0 < n → pt G ea (eQ G cap g) H) ∧ ∀ i, i < n → g i = some (f i)) ∧ ro a ∧ (0 < n → ro ea)
theorem alX.r {G : gT} {ro : Nat → Prop} {a n : Nat} {f : Nat → Nat} {H : Heap} (h : alX G ro a f n H) : alR G a f n H := by
  obtain ⟨mc, ea, cap, g, h1, -⟩ := h
  exact ⟨mc, ea, cap, g, h1⟩
theorem pt.kp {G : gT} {a : Nat} {e : va_E} {H H1 : Heap} (h : pt G a e H) (hk : ∀ q, q < H.size → q = a → H1[q]? = H[q]?) : pt G a e H1 := va_at.kept h (hk a (va_at.lt h) rfl)
theorem alX.kp {G : gT} {ro : Nat → Prop} {a n : Nat} {f : Nat → Nat} {H H1 : Heap} (h : alX G ro a f n H) (hk : ∀ q, q < H.size → ro q → H1[q]? = H[q]?) : alX G ro a f n H1 := by
  obtain ⟨mc, ea, cap, g, ⟨h1, h2, h3, h4, h5⟩, h6, h7⟩ := h
  exact ⟨mc, ea, cap, g, ⟨h1.kp (fun q hq e => hk q hq (e ▸ h6)), h2, h3, fun z => (h4 z).kp (fun q hq e => hk q hq (e ▸ h7 z)), h5⟩, h6, h7⟩
/-- the class's lists (aS by number, aB by place, aH the halos), stations and halos, in the reference's rows L, T -/
def crO (G : gT) (ro : Nat → Prop) (n hn : Nat) (L T : Nat → Int32) (o : List Nat) (sa fa ta ha : Nat → Nat) (F U : Nat → Nat → Int32) (aS aB aH : Nat) (H : Heap) : Prop :=
  alX G ro aS sa n H ∧ alX G ro aB (fun k => sa (o.getD k 0)) n H ∧ alX G ro aH ha hn H ∧ (∀ i, i < n → stP G L sa fa ta F U i H ∧ ro (sa i) ∧ ro (fa i) ∧ ro (ta i)) ∧ ∀ j, j < hn → haP G T ha j H ∧ ro (ha j)
section CRO
variable {G : gT} {ro : Nat → Prop} {n hn : Nat} {L T : Nat → Int32} {o : List Nat} {sa fa ta ha : Nat → Nat} {F U : Nat → Nat → Int32} {aS aB aH : Nat} {H H1 : Heap}
theorem crO.kp (h : crO G ro n hn L T o sa fa ta ha F U aS aB aH H) (hk : ∀ q, q < H.size → ro q → H1[q]? = H[q]?) : crO G ro n hn L T o sa fa ta ha F U aS aB aH H1 := by
  obtain ⟨h1, h2, h3, h4, h5⟩ := h
  refine ⟨h1.kp hk, h2.kp hk, h3.kp hk, fun i hi => ?_, fun j hj => ?_⟩
  · obtain ⟨⟨q1, q2, q3, q4⟩, r1, r2, r3⟩ := h4 i hi
    exact ⟨⟨q1.kp (fun q hq e => hk q hq (e ▸ r1)), q2.kp (fun q hq e => hk q hq (e ▸ r2)), q3.kp (fun q hq e => hk q hq (e ▸ r3)), q4⟩, r1, r2, r3⟩
  · obtain ⟨q1, r1⟩ := h5 j hj
    exact ⟨q1.kp (fun q hq e => hk q hq (e ▸ r1)), r1⟩
theorem crO.at {A : Nat → Prop} {locs : List Loc} (h : crO G ro n hn L T o sa fa ta ha F U aS aB aH H) (hS : va_S A H H1 locs) (hro : ∀ q, ro q → ¬ A q) : crO G ro n hn L T o sa fa ta ha F U aS aB aH H1 :=
  h.kp (fun q hq hr => hS.2.1 q hq (hro q hr))
theorem crO.fr {A : Nat → Prop} (h : crO G ro n hn L T o sa fa ta ha F U aS aB aH H) (hf : fr A H H1) (hro : ∀ q, ro q → ¬ A q) : crO G ro n hn L T o sa fa ta ha F U aS aB aH H1 :=
  h.kp (fun q hq hr => hf.2 q hq (hro q hr))
theorem crO.lS (h : crO G ro n hn L T o sa fa ta ha F U aS aB aH H) : alR G aS sa n H := h.1.r
theorem crO.lB (h : crO G ro n hn L T o sa fa ta ha F U aS aB aH H) : alR G aB (fun k => sa (o.getD k 0)) n H := h.2.1.r
theorem crO.lH (h : crO G ro n hn L T o sa fa ta ha F U aS aB aH H) : alR G aH ha hn H := h.2.2.1.r
theorem crO.st (h : crO G ro n hn L T o sa fa ta ha F U aS aB aH H) {i : Nat} (hi : i < n) : stP G L sa fa ta F U i H := (h.2.2.2.1 i hi).1
theorem crO.hal (h : crO G ro n hn L T o sa fa ta ha F U aS aB aH H) {j : Nat} (hj : j < hn) : haP G T ha j H := (h.2.2.2.2 j hj).1
end CRO
/-- the reckoning's cells: addresses b 0 to b 6, numbers ri (0 seen, 1 odd, 2 slope, 3 base, 4 leftOfOdd), rows ra (0 numbers, 1 places, 2 readings, 3 left, 4 work, 5 slopes) -/
abbrev rW (G : gT) (b : Nat → Nat) (mi : Nat → Int32) (ma : Nat → Nat → Int32) : va_W := [(b 0, .inr (1, [.int (mi 0), .int (mi 1), .int (mi 2), .int (mi 3), .int (mi 4), .ref (b 1), .ref (b 2), .ref (b 3), .ref (b 4), .ref (b 5), .ref (b 6)])), (b 1, eI G 12 (ma 0)), (b 2, eI G 12 (ma 1)), (b 3, eI G 12 (ma 2)), (b 4, eI G 12 (ma 3)), (b 5, eI G 12 (ma 4)), (b 6, eI G 66 (ma 5))]
abbrev rP (G : gT) (b : Nat → Nat) (mi : Nat → Int32) (ma : Nat → Nat → Int32) (H : Heap) : Prop := va_P (gD G) vC (rW G b mi ma) H
/-- the private static across the nest -/
abbrev NN (U : State) : Prop := va_Nw (.methodLinkNest RX1 86 yX3_middle RX3) U
def PHn (G : gT) (as : List Value) (H0 : Heap) : Array Value → State → Prop := fun v U => v = as.toArray ∧ U.heap = H0 ∧ KK G U ∧ NN U
theorem PHn.blind {G : gT} {as : List Value} {H0 : Heap} : FrameBlind (PHn G as H0) := fun a U g mk q => by
  obtain ⟨q0, q1, qK, qN⟩ := q
  exact ⟨q0, q1, va_K.moved (u := U) (U := U.calling g mk a) (Vm.Alike.refl U.vm) qK, va_Nw.same rfl (u := U) (U := U.calling g mk a) rfl qN⟩
theorem x_preVn {G : gT} {s : State} {H : Heap} {C : String} {b : Nat} {As : List Value} (hK : KK G s) (hN : NN s) (hr : ∃ cell : Cell, H[b]? = some cell ∧ cell.vm.isStatics = false ∧ s.vm.findClass C = some cell.cls) : PreV s H C b (PHn G (.ref b :: As) H) As :=
  ⟨PHn.blind, hr, fun U hU hW => ⟨rfl, hU, hK.mv hW, va_Nw.warmM hW hN⟩⟩
theorem x_headn {G : gT} {l : Launch} {y : MethodName} {bytes : ByteArray} {maxL : Nat} {ret : Option FieldType} {ws ws' : List Cond} {rm : Room} {as : List Value} {H0 : Heap} {Ψ : Outcome → Heap → Prop} {mc ms : Nat} {free : Addr → Prop}
    (hy : plainName y.cls = true) (hw : ws = Cond.code y bytes maxL ret :: ws') (hn : (lg_sl as).length ≤ maxL)
    (body : ∀ (p : Program) (e : Env) (s : State) (m : MethodId) (below : List Frame) (meth : Method) (c : Code) (ls : Array Slot), p.tables.exec = Jvm.exec → c.code = bytes → c.maxLocals = maxL → s.vm.findClass y.cls = some m.cls → (∀ w ∈ ws, w.before as.toArray s = true) → meth.sig.returnType = ret → meth.locks = false → meth.name = y.name → KK G s → s.heap = H0 → lv_has ls maxL (lv_args 0 as) →
      ∀ Q : State → Prop, Q = MQ below (QH Ψ) as.toArray s mc ms free → NN s → W p l e rm s m as.toArray below meth c H0 [] 0 0 Q (F0 m 0 ls [])) : Met l y ws rm (PHn G as H0) (QH Ψ) mc ms free := by
  refine Met.ofW (cc := bytes) (maxL := maxL) (ret := ret) hy hw ?_
  intro p e s m args below meth c s₁ B hml hv
  obtain ⟨rfl, hH, hK, hN⟩ := hv
  have hts := atoms_spec (ws := ws) B.pre
  have hl := lv_entry as (n := maxL) hn
  rw [lg_entry_eq, hH]
  exact body p e s m below meth c _ B.exec B.bytes hml (findClass_of_methodNamed B.named) hts B.returns B.notSynchronized (name_of_methodNamed B.named B.method).1 hK hH hl _ rfl hN
abbrev WnI (G : gT) (l : Launch) (y : MethodName) (ws : List Cond) (rm : Room) (as : List Value) (H0 : Heap) (A : Nat → Prop) (Φ : Int32 → Heap → Prop) : Prop := Met l y ws rm (PHn G as H0) (QH (oI fun r H1 => fr A H0 H1 ∧ Φ r H1)) 0 0 A
abbrev WnV (G : gT) (l : Launch) (y : MethodName) (ws : List Cond) (rm : Room) (as : List Value) (H0 : Heap) (A : Nat → Prop) (Φ : Heap → Prop) : Prop := Met l y ws rm (PHn G as H0) (QH (oV fun H1 => fr A H0 H1 ∧ Φ H1)) 0 0 A
/-- behind a call that writes one cell of the world -/
theorem cell_call {D : va_G} {cl : List vw_C} {A : Nat → Prop} {ws : va_W} {k x : Nat} {e0 e1 : va_E} {H H1 : Heap} (hP : va_P D cl ws H) (hD : va_D A ws) (hk : ws[k]? = some (x, e0)) (hf : fr (fun q => q = x) H H1) (h1 : va_at D cl (x, e1) H1) : va_P D cl (ws.set k (x, e1)) H1 := by
  have hl := (List.getElem?_eq_some_iff.mp hk).1
  intro i q hi
  by_cases e : i = k
  · rw [e, List.getElem?_set_self hl] at hi
    cases hi
    exact h1
  · rw [List.getElem?_set_ne (Ne.symm e)] at hi
    have ha := hP i q hi
    exact ha.kept (hf.2 q.1 ha.lt (fun z => e (hD.1 i k q (x, e0) hi hk z)))
-- ===== pure: the slopes in the class's order; comparing sizes =====
/-- the slopes of b and those ahead of it, the first a -/
def colR (f : Nat → Nat → Int32) (b : Nat) : Nat → List Int32
  | 0 => []
  | a + 1 => colR f b a ++ [f a b]
def colS (f : Nat → Nat → Int32) : Nat → List Int32
  | 0 => []
  | b + 1 => colS f b ++ colR f b b
def tri : Nat → Nat
  | 0 => 0
  | b + 1 => tri b + b
theorem colR_len (f : Nat → Nat → Int32) (b : Nat) : ∀ a, (colR f b a).length = a := by
  intro a
  induction a with
  | zero => rfl
  | succ a ih => rw [colR, List.length_append, ih]; rfl
theorem colS_len (f : Nat → Nat → Int32) : ∀ b, (colS f b).length = tri b := by
  intro b
  induction b with
  | zero => rfl
  | succ b ih => rw [colS, List.length_append, ih, colR_len]; rfl
theorem tri_66 : ∀ b, b < 12 → ∀ a, a < b → tri b + a < 66 := by decide
theorem tri_12 : ∀ b, b < 13 → tri b ≤ 66 := by decide
theorem allS_up (f : Nat → Nat → Int32) (M : Nat) : ∀ a, a ≤ M → (allS f (M + 1) a).Perm (allS f M a ++ colR f M a) := by
  intro a
  induction a with
  | zero => intro _; exact List.Perm.refl _
  | succ a ih =>
    intro h
    show (allS f (M + 1) a ++ rowS f a (M + 1)).Perm ((allS f M a ++ rowS f a M) ++ (colR f M a ++ [f a M]))
    rw [rowS_succ f (by omega)]
    refine ((ih (by omega)).append_right _).trans ?_
    rw [List.append_assoc, List.append_assoc]
    refine List.Perm.append_left _ ?_
    rw [← List.append_assoc, ← List.append_assoc]
    exact List.Perm.append_right _ List.perm_append_comm
theorem colS_perm (f : Nat → Nat → Int32) : ∀ M, (colS f M).Perm (allS f M M) := by
  intro M
  induction M with
  | zero => exact List.Perm.refl _
  | succ M ih =>
    show (colS f M ++ colR f M M).Perm (allS f (M + 1) M ++ rowS f M (M + 1))
    rw [rowS_0 f M (M + 1) (Nat.le_refl _), List.append_nil]
    exact (ih.append_right _).trans (allS_up f M M (Nat.le_refl _)).symm
theorem cmp_gt {x y : Int32} (hx : 0 ≤ x.toInt) (hy : 0 ≤ y.toInt) : 0 < x - y ↔ y < x := by
  have h1 := x.toInt_lt
  have h2 := y.toInt_lt
  rw [Int32.lt_iff_toInt_lt, Int32.lt_iff_toInt_lt, sub_toInt (by omega) (by omega)]
  show (0 : Int) < _ ↔ _
  omega
theorem cmp_eq {x y : Int32} : x - y = 0 ↔ x = y := by
  rw [Int32.sub_eq_iff_eq_add, Int32.zero_add]
theorem ab_nn {x : Int32} (h : -2147483648 < x.toInt) : 0 ≤ (ab x).toInt := by
  unfold ab
  by_cases c : 0 ≤ x
  · rw [if_pos c]; exact ge0.mp c
  · rw [if_neg c]
    have := mt ge0.mpr c
    have h2 : (0 - x).toInt = 0 - x.toInt := sub_toInt (by show _ ≤ (0 : Int) - _; omega) (by show (0 : Int) - _ < _; omega)
    rw [h2]; omega
