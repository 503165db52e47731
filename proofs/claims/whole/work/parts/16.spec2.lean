-- ===== what is told of a halo; codes of refusals =====
def lf (L T : Nat → Int32) (o : List Nat) (h k : Nat) : Int32 := rr L T o h k - rise (slp L T o h) (gL L (sq L T o h k) 0) - bas L T o h
def oddI (L T : Nat → Int32) (o : List Nat) (h : Nat) : Nat := ob (fun k => ab (lf L T o h k)) (sq L T o h) (sqM L T o h)
def rowC (c : Nat → Nat → Bool) (a : Nat) : Nat → Nat
  | 0 => 0
  | b + 1 => rowC c a b + (decide (a < b) && c a b).toNat
def allC (c : Nat → Nat → Bool) (M : Nat) : Nat → Nat
  | 0 => 0
  | a + 1 => allC c M a + rowC c a M
def colC (c : Nat → Nat → Bool) : Nat → Nat
  | 0 => 0
  | b + 1 => colC c b + cnt (fun a => c a b) b
theorem toNat_le (b : Bool) : b.toNat ≤ 1 := by cases b <;> decide
theorem rowC_0 (c : Nat → Nat → Bool) (a : Nat) : ∀ b, b ≤ a + 1 → rowC c a b = 0 := by
  intro b
  induction b with
  | zero => intro _; rfl
  | succ b ih =>
    intro h
    show rowC c a b + (decide (a < b) && c a b).toNat = 0
    rw [ih (by omega), decide_eq_false (by omega)]
    rfl
theorem rowC_succ (c : Nat → Nat → Bool) {a b : Nat} (h : a < b) : rowC c a (b + 1) = rowC c a b + (c a b).toNat := by
  show rowC c a b + (decide (a < b) && c a b).toNat = _
  rw [decide_eq_true h, Bool.true_and]
theorem rowC_le (c : Nat → Nat → Bool) (a : Nat) : ∀ b, rowC c a b ≤ b := by
  intro b
  induction b with
  | zero => exact Nat.le_refl 0
  | succ b ih =>
    show rowC c a b + (decide (a < b) && c a b).toNat ≤ b + 1
    have := toNat_le (decide (a < b) && c a b)
    omega
theorem allC_le (c : Nat → Nat → Bool) {M : Nat} (hM : M ≤ 12) : ∀ a, allC c M a ≤ 12 * a := by
  intro a
  induction a with
  | zero => exact Nat.le_refl 0
  | succ a ih =>
    show allC c M a + rowC c a M ≤ 12 * (a + 1)
    have := rowC_le c a M
    omega
theorem allC_up (c : Nat → Nat → Bool) (M : Nat) : ∀ a, a ≤ M → allC c (M + 1) a = allC c M a + cnt (fun a => c a M) a := by
  intro a
  induction a with
  | zero => intro _; rfl
  | succ a ih =>
    intro h
    show allC c (M + 1) a + rowC c a (M + 1) = allC c M a + rowC c a M + (cnt (fun a => c a M) a + (c a M).toNat)
    rw [ih (by omega), rowC_succ c (by omega)]
    omega
theorem allC_col (c : Nat → Nat → Bool) : ∀ M, allC c M M = colC c M := by
  intro M
  induction M with
  | zero => rfl
  | succ M ih =>
    show allC c (M + 1) M + rowC c M (M + 1) = colC c M + cnt (fun a => c a M) M
    rw [allC_up c M M (Nat.le_refl _), rowC_0 c M (M + 1) (Nat.le_refl _), ih]
    omega
theorem cnt_congr {f g : Nat → Bool} : ∀ k, (∀ j, j < k → f j = g j) → cnt f k = cnt g k := by
  intro k
  induction k with
  | zero => intro _; rfl
  | succ k ih =>
    intro h
    show cnt f k + (f k).toNat = cnt g k + (g k).toNat
    rw [ih (fun j hj => h j (by omega)), h k (by omega)]
theorem ob_congr {a a' : Nat → Int32} {q q' : Nat → Nat} : ∀ m, (∀ k, k < m → a k = a' k) → (∀ k, k < m → q k = q' k) → ob a q m = ob a' q' m := by
  intro m
  induction m with
  | zero => intro _ _; rfl
  | succ m ih =>
    intro h1 h2
    have e := ih (fun k hk => h1 k (by omega)) (fun k hk => h2 k (by omega))
    have hl : ob a q m < m + 1 := by
      rcases Nat.eq_zero_or_pos m with z | z
      · subst z; show 0 < 1; omega
      · have := ob_lt a q m z; omega
    show (if bt a q m (ob a q m) = true then m else ob a q m) = (if bt a' q' m (ob a' q' m) = true then m else ob a' q' m)
    have e2 : bt a q m (ob a q m) = bt a' q' m (ob a' q' m) := by
      rw [← e]
      unfold bt
      rw [h1 m (by omega), h1 _ hl, h2 m (by omega), h2 _ hl]
    rw [e2, e]
theorem inn_congr {c c' : Nat → Nat → Bool} {m : Nat} (h : ∀ i k, i < k → k < m → c i k = c' i k) : ∀ k, k < m → ∀ i, i ≤ k → inn c k i = inn c' k i := by
  intro k
  induction k using Nat.strongRecOn with
  | ind k ih =>
    intro hk i
    induction i with
    | zero => intro _; rfl
    | succ i ih2 =>
      intro hi
      have e1 := ih2 (by omega)
      have e2 := ih i (by omega) (by omega) i (Nat.le_refl _)
      show (if c i k = true then max (inn c k i) (wf c i + 1) else inn c k i) = (if c' i k = true then max (inn c' k i) (wf c' i + 1) else inn c' k i)
      rw [wf_eq, wf_eq, e1, e2, h i k (by omega) hk]
theorem lrun_congr {c c' : Nat → Nat → Bool} : ∀ m, (∀ i k, i < k → k < m → c i k = c' i k) → lrun c m = lrun c' m := by
  intro m
  induction m with
  | zero => intro _; rfl
  | succ m ih =>
    intro h
    show max (lrun c m) (wf c m) = max (lrun c' m) (wf c' m)
    rw [ih (fun i k h1 h2 => h i k h1 (by omega)), wf_eq, wf_eq, inn_congr (m := m + 1) h m (by omega) m (Nat.le_refl _)]
/-- how many pairs fall -/
abbrev fallB (r : Nat → Int32) (a b : Nat) : Bool := decide (r b < r a)
/-- what halo() tells -/
def hv (L T : Nat → Int32) (o : List Nat) (h : Nat) : Nat → Int32
  | 0 => nI (sqM L T o h)
  | 1 => slp L T o h
  | 2 => bas L T o h
  | 3 => if sqM L T o h < 2 then (-1000000) else nI (sq L T o h (oddI L T o h))
  | 4 => if sqM L T o h < 2 then (-1000000) else lf L T o h (oddI L T o h)
  | 5 => nI (max (lrun (gc (nI 1) (rr L T o h)) (sqM L T o h)) (lrun (gc (-1) (rr L T o h)) (sqM L T o h)))
  | _ => nI (allC (fallB (rr L T o h)) (sqM L T o h) (sqM L T o h))
/-- codes: what is thrown, 0 for nothing -/
def k1 (c : Bool) : Nat := if c = true then 0 else 1
def k2 (c d : Bool) : Nat := if c = true then (if d = true then 0 else 2) else 1
def k3 (c d e : Bool) : Nat := if c = true then (if d = true then (if e = true then 0 else 3) else 2) else 1
abbrev isT (t : Int32) : Bool := inR (nI 0) (nI 1000000) t
/-- is the place p free, of the first k -/
def frB (L : Nat → Int32) (p : Int32) : Nat → Bool
  | 0 => true
  | k + 1 => frB L p k && !decide (gL L k 0 = p)
/-- the state of the reference -/
def mS (n hn : Nat) (L T : Nat → Int32) (mi : Nat → Int32) (ma : Nat → Nat → Int32) : Prop := mi 1 = nI n ∧ mi 2 = nI hn ∧ ma 0 = L ∧ ma 1 = T
/-- what a call of the reference leaves: the code k, the answer v where it is 0 -/
def mQ (G : gT) (b : Nat → Nat) (n hn : Nat) (L T : Nat → Int32) (k : Nat) (v r : Int32) (H1 : Heap) : Prop :=
  (k = 0 → r = v) ∧ ∃ (mi : Nat → Int32) (ma : Nat → Nat → Int32), mP G b mi ma H1 ∧ mS n hn L T mi ma ∧ mi 0 = nI k
theorem mQ_mk {G : gT} {b : Nat → Nat} {n hn : Nat} {L T : Nat → Int32} {k k0 : Nat} {v r : Int32} {H1 : Heap} {mi : Nat → Int32} {ma : Nat → Nat → Int32} (hk : k = k0) (hP : mP G b mi ma H1) (h0 : mi 0 = nI k0) (h1 : mi 1 = nI n) (h2 : mi 2 = nI hn) (h3 : ma 0 = L) (h4 : ma 1 = T) (hv : k0 = 0 → r = v) : mQ G b n hn L T k v r H1 :=
  ⟨fun z => hv (hk ▸ z), mi, ma, hP, ⟨h1, h2, h3, h4⟩, by rw [hk]; exact h0⟩
theorem oddI_lt {L T : Nat → Int32} {o : List Nat} {h : Nat} (h0 : 0 < (sqL L T o h).length) : oddI L T o h < (sqL L T o h).length := ob_lt _ _ _ h0
