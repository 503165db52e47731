-- ===== making int rows; a call beside cells that it doesn't know =====
section XNEW
variable {p : Program} {l : Launch} {e : Env} {R : Room} {s : State} {m : MethodId} {args : Array Value} {below : List Frame} {meth : Method} {c : Code} {H : Heap} {locs : List Loc} {cells slots : Nat} {Q : State → Prop} {pc : Nat} {ls : Array Slot} {rest : List Value} {cc : ByteArray} {G : gT} {A : Nat → Prop} {ws : va_W} {H0 : Heap}
theorem x_newI {N : Nat} (hexec : p.tables.exec = Jvm.exec) (hb : c.code = cc) (harr : (Cond.arrayClass .int).before args s = true) (hK : KK G s) (hP : va_P (gD G) vC ws H) (hD : va_D A ws) (hS : va_S A H0 H locs) (hA : ∀ q, H0.size ≤ q → A q) (hN : N < 2 ^ 31) (hbytes : N * componentBytes .int ≤ 536870912) (hcells : cells + 1 ≤ R.cells) (hslots : slots + N ≤ R.slots) (hdg : decode cc pc = .ok (.newarray .int, 2))
    (kk : ∀ (q : Nat) (H1 : Heap), va_P (gD G) vC (ws ++ [(q, eI G N (fun _ => 0))]) H1 → va_D A (ws ++ [(q, eI G N (fun _ => 0))]) → va_S A H0 H1 locs →
      W p l e R s m args below meth c H1 locs (cells + 1) (slots + N) Q (F0 m (pc + 2) ls (.ref q :: rest))) : W p l e R s m args below meth c H locs cells slots Q (F0 m pc ls (.int (nI N) :: rest)) :=
  va_newa (atype := .int) hexec hb harr rfl hK hP hD hS hA (a0 := (N, .inl (fun _ => 0))) (fun cA => rfl) (nI_pos hN) (nI_clamp hN) hbytes hcells hslots hdg (fun q cA H1 hK1 hP1 hD1 hS1 => by
    have h1 := (hK1.2 4 (cA, .int) rfl).2
    have h2 := (hK.2 0 (G.2.2 0, .int) rfl).2
    have e9 : G.2.2 0 = cA := Option.some.inj (h2.symm.trans h1)
    refine kk q H1 ?_ ?_ hS1
    · show va_P (gD G) vC (ws ++ [(q, .inl (G.2.2 0, N, .inl fun _ => 0))]) H1
      rw [e9]; exact hP1
    · show va_D A (ws ++ [(q, .inl (G.2.2 0, N, .inl fun _ => 0))])
      rw [e9]; exact hD1)
theorem x_copyI (hexec : p.tables.exec = Jvm.exec) (hb : c.code = cc) (hml : c.maxLocals = ls.size) {own : String} {index : Nat} (hown : s.vm.findClass own = some m.cls) (hlink : (Cond.methodLink own index arraycopyName).before args s = true) (hnat : (Cond.native arraycopyName).before args s = true) (hstat : (Cond.static arraycopyName).before args s = true) (hini : (Cond.initialized "java/lang/System").before args s = true)
    (hK : KK G s) (hP : va_P (gD G) vC ws H) (hD : va_D A ws) (hS : va_S A H0 H locs) (q0 q1 : Nat) {a0 a1 n0 n1 : Nat} {f g : Nat → Int32} (ha0 : ws[q0]? = some (a0, eI G n0 f)) (ha1 : ws[q1]? = some (a1, eI G n1 g)) {sp dp n : Nat} (h1 : sp < 2 ^ 31) (h2 : dp < 2 ^ 31) (h3 : n < 2 ^ 31) (h4 : sp + n ≤ n0) (h5 : dp + n ≤ n1)
    (hframes : 1 ≤ R.frames) (hlocals : (rest.map fun v => v.category).sum + (nativeFrameWords "java/lang/System" "arraycopy" 5 + 11) ≤ R.locals) (hdg : decode cc pc = .ok (.invokestatic index, 3))
    (kk : ∀ (H1 : Heap) (locs1 : List Loc), va_P (gD G) vC (ws.set q1 (a1, eI G n1 (va_cpy f g sp dp n))) H1 → va_D A (ws.set q1 (a1, eI G n1 (va_cpy f g sp dp n))) → va_S A H0 H1 locs1 → W p l e R s m args below meth c H1 locs1 cells slots Q (F0 m (pc + 3) ls rest)) : W p l e R s m args below meth c H locs cells slots Q (F0 m pc ls (.int (nI n) :: .int (nI dp) :: .ref a1 :: .int (nI sp) :: .ref a0 :: rest)) :=
  va_copyi hexec hb hml hown hlink hnat hstat hini hK hP hD hS q0 q1 0 0 ha0 ha1 rfl rfl rfl (nI_pos h1) (nI_pos h2) (nI_pos h3) (by rw [nI_clamp h1, nI_clamp h3]; exact h4) (by rw [nI_clamp h2, nI_clamp h3]; exact h5) (fun i _ => rfl) hframes hlocals hdg (by rw [nI_clamp h1, nI_clamp h2, nI_clamp h3]; exact kk)
end XNEW
def aset (ws : va_W) : Nat → Prop := fun q => ∃ (k : Nat) (e : va_E), ws[k]? = some (q, e)
theorem aset_D {A : Nat → Prop} {ws : va_W} (h : va_D A ws) : va_D (aset ws) ws := ⟨h.1, fun k q hk => ⟨k, q.2, hk⟩⟩
theorem aset_A {A : Nat → Prop} {ws : va_W} (h : va_D A ws) : ∀ q, aset ws q → A q := fun q hq => by
  obtain ⟨k, e, hk⟩ := hq
  exact h.2 k (q, e) hk
theorem va_Pl {D : va_G} {cl : List vw_C} {ws X : va_W} {H : Heap} (h : va_P D cl (ws ++ X) H) : va_P D cl ws H := fun k q hk => h k q (by
  rw [List.getElem?_append_left (List.getElem?_eq_some_iff.mp hk).1]; exact hk)
theorem va_Pr {D : va_G} {cl : List vw_C} {ws X : va_W} {H : Heap} (h : va_P D cl (ws ++ X) H) : va_P D cl X H := fun k q hk => h (ws.length + k) q (by
  rw [List.getElem?_append_right (by omega), Nat.add_sub_cancel_left]; exact hk)
theorem va_Dl {A : Nat → Prop} {ws X : va_W} (h : va_D A (ws ++ X)) : va_D A ws := by
  have key : ∀ (k : Nat) (q : Nat × va_E), ws[k]? = some q → (ws ++ X)[k]? = some q := fun k q hk => by
    rw [List.getElem?_append_left (List.getElem?_eq_some_iff.mp hk).1]; exact hk
  exact ⟨fun i j p q hi hj hpq => h.1 i j p q (key i p hi) (key j q hj) hpq, fun k q hk => h.2 k q (key k q hk)⟩
/-- behind a call that may write the cells of ws alone: the other cells X stand -/
theorem ext_call {A : Nat → Prop} {D : va_G} {cl : List vw_C} {ws ws' X : va_W} {H H1 : Heap} (hP : va_P D cl (ws ++ X) H) (hD : va_D A (ws ++ X)) (hf : fr (aset ws) H H1) (hP1 : va_P D cl ws' H1) : va_P D cl (ws' ++ X) H1 := by
  refine va_P.app hP1 (fun k q hk => ?_)
  have hx : (ws ++ X)[ws.length + k]? = some q := by
    rw [List.getElem?_append_right (by omega), Nat.add_sub_cancel_left]; exact hk
  have ha := hP _ q hx
  refine ha.kept (hf.2 q.1 ha.lt ?_)
  rintro ⟨i, e, hi⟩
  have hil := (List.getElem?_eq_some_iff.mp hi).1
  have hi2 : (ws ++ X)[i]? = some (q.1, e) := by rw [List.getElem?_append_left hil]; exact hi
  have := hD.1 i (ws.length + k) (q.1, e) q hi2 hx rfl
  omega
abbrev WrIm (G : gT) (l : Launch) (y : MethodName) (ws : List Cond) (rm : Room) (as : List Value) (H0 : Heap) (A : Nat → Prop) (mc ms : Nat) (Φ : Int32 → Heap → Prop) : Prop := Met l y ws rm (PH G as H0) (QH (oI fun r H1 => fr A H0 H1 ∧ Φ r H1)) mc ms A
abbrev WrVm (G : gT) (l : Launch) (y : MethodName) (ws : List Cond) (rm : Room) (as : List Value) (H0 : Heap) (A : Nat → Prop) (mc ms : Nat) (Φ : Heap → Prop) : Prop := Met l y ws rm (PH G as H0) (QH (oV fun H1 => fr A H0 H1 ∧ Φ H1)) mc ms A
