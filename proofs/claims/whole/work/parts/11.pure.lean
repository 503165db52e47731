-- ===== the middle one: sorting in place =====
/-- the first n values as a list -/
def ls' (f : Nat → Int32) (n : Nat) : List Int32 := (List.range n).map f
theorem ls'_succ (f : Nat → Int32) (n : Nat) : ls' f (n + 1) = ls' f n ++ [f n] := by
  unfold ls'; rw [List.range_succ, List.map_append]; rfl
theorem ls'_len (f : Nat → Int32) (n : Nat) : (ls' f n).length = n := by simp [ls']
theorem ls'_get (f : Nat → Int32) (n i : Nat) (h : i < n) : (ls' f n)[i]? = some (f i) := by
  simp [ls', h]
theorem ls'_congr {f g : Nat → Int32} {n : Nat} (h : ∀ j, j < n → f j = g j) : ls' f n = ls' g n := by
  unfold ls'
  exact List.map_congr_left (fun j hj => h j (List.mem_range.mp hj))
/-- the middle one of a list in ascending order -/
def midL (l : List Int32) : Int32 := (l.mergeSort (fun a b => decide (a ≤ b))).getD ((l.length - 1) / 2) 0
def mid (f : Nat → Int32) (n : Nat) : Int32 := midL (ls' f n)
theorem midL_sorted {l : List Int32} : (l.mergeSort (fun a b => decide (a ≤ b))).Pairwise (fun a b => a ≤ b) := by
  have h := List.pairwise_mergeSort (le := fun (a b : Int32) => decide (a ≤ b)) (fun a b c h1 h2 => by
    simp only [decide_eq_true_eq] at *
    exact Int32.le_trans h1 h2) (fun a b => by
    simp only [Bool.or_eq_true, decide_eq_true_eq]
    exact Int32.le_total a b) l
  exact h.imp (fun h => by simpa using h)
theorem midL_eq {l l' : List Int32} (hp : l'.Perm l) (hs : l'.Pairwise (fun a b => a ≤ b)) : l.mergeSort (fun a b => decide (a ≤ b)) = l' := by
  refine List.Perm.eq_of_pairwise (le := fun (a b : Int32) => a ≤ b) (fun a b _ _ h1 h2 => Int32.le_antisymm h1 h2) midL_sorted hs ?_
  exact (List.mergeSort_perm l _).trans hp.symm
theorem midL_perm {l l' : List Int32} (hp : l'.Perm l) : midL l' = midL l := by
  unfold midL
  rw [hp.length_eq, midL_eq (l := l') (l' := l.mergeSort (fun a b => decide (a ≤ b))) ((List.mergeSort_perm l _).trans hp.symm) midL_sorted]
/-- v's first n are f's in another order, the first k ascend, what is behind n is f's -/
def insI (f v : Nat → Int32) (n k : Nat) : Prop := (ls' v n).Perm (ls' f n) ∧ (∀ i j, i < j → j < k → v i ≤ v j) ∧ ∀ j, n ≤ j → v j = f j
theorem insI_0 (f : Nat → Int32) (n : Nat) : insI f f n 1 := ⟨List.Perm.refl _, fun i j h1 h2 => by omega, fun _ _ => rfl⟩
theorem insI_mid {f v : Nat → Int32} {n k : Nat} (h : insI f v n k) (hk : n ≤ k) (hn : 0 < n) : v ((n - 1) / 2) = mid f n := by
  obtain ⟨hp, hs, -⟩ := h
  have hpw : (ls' v n).Pairwise (fun a b => a ≤ b) := by
    rw [List.pairwise_iff_getElem]
    intro i j hi hj hij
    rw [ls'_len] at hi hj
    have e1 := ls'_get v n i hi
    have e2 := ls'_get v n j hj
    rw [List.getElem?_eq_some_iff] at e1 e2
    obtain ⟨_, e1⟩ := e1
    obtain ⟨_, e2⟩ := e2
    rw [e1, e2]
    exact hs i j hij (by omega)
  unfold mid midL
  rw [midL_eq hp hpw, ls'_len, List.getD_eq_getElem?_getD, ls'_get v n _ (by omega)]
  rfl
/-- the values from t to k - 1 moved up by one -/
def shf (v : Nat → Int32) (t k : Nat) : Nat → Int32 := fun j => if t < j ∧ j ≤ k then v (j - 1) else v j
theorem shf_in (v : Nat → Int32) {t k j : Nat} (h1 : t < j) (h2 : j ≤ k) : shf v t k j = v (j - 1) := if_pos ⟨h1, h2⟩
theorem shf_out (v : Nat → Int32) {t k j : Nat} (h : ¬ (t < j ∧ j ≤ k)) : shf v t k j = v j := if_neg h
theorem shf_self (v : Nat → Int32) (k : Nat) : shf v k k = v := funext fun j => shf_out v (by omega)
theorem shf_lt (v : Nat → Int32) {t k j : Nat} (h : j ≤ t) : shf v t k j = v j := shf_out v (by omega)
theorem shf_step (v : Nat → Int32) {t k : Nat} (h : 0 < t) (hk : t ≤ k) : upd (shf v t k) t (v (t - 1)) = shf v (t - 1) k := by
  funext j
  by_cases e : j = t
  · rw [e, pk_us, shf_in v (by omega) (by omega)]
  · rw [pk_un e]
    by_cases e2 : t < j ∧ j ≤ k
    · rw [shf_in v e2.1 e2.2, shf_in v (by omega) e2.2]
    · rw [shf_out v e2, shf_out v (by omega)]
theorem ins_perm : ∀ (d : Nat) (v : Nat → Int32) (t : Nat), (ls' (upd (shf v t (t + d)) t (v (t + d))) (t + d + 1)).Perm (ls' v (t + d + 1)) := by
  intro d
  induction d with
  | zero =>
    intro v t
    rw [Nat.add_zero, shf_self]
    refine List.Perm.of_eq (ls'_congr fun j hj => ?_)
    by_cases e : j = t
    · rw [e, pk_us]
    · rw [pk_un e]
  | succ d ih =>
    intro v t
    have h1 : ls' (upd (shf v t (t + (d + 1))) t (v (t + (d + 1)))) (t + (d + 1)) = ls' (upd (shf (upd v (t + d) (v (t + (d + 1)))) t (t + d)) t ((upd v (t + d) (v (t + (d + 1)))) (t + d))) (t + d + 1) := by
      refine ls'_congr fun j hj => ?_
      by_cases e : j = t
      · rw [e, pk_us, pk_us, pk_us]
      · rw [pk_un e, pk_un e]
        by_cases e2 : t < j
        · rw [shf_in v e2 (by omega), shf_in _ e2 (by omega), pk_un (by omega)]
        · rw [shf_out v (by omega), shf_out _ (by omega), pk_un (by omega)]
    have h2 : (upd (shf v t (t + (d + 1))) t (v (t + (d + 1)))) (t + (d + 1)) = v (t + d) := by
      rw [pk_un (by omega), shf_in v (by omega) (Nat.le_refl _)]
      congr 1
    have h3 : ls' (upd v (t + d) (v (t + (d + 1)))) (t + d) = ls' v (t + d) := ls'_congr fun j hj => pk_un (by omega)
    have h4 : upd v (t + d) (v (t + (d + 1))) (t + d) = v (t + (d + 1)) := pk_us
    rw [show t + (d + 1) + 1 = (t + (d + 1)) + 1 from rfl, ls'_succ, h1, h2, ls'_succ v (t + (d + 1)), show t + (d + 1) = t + d + 1 from rfl, ls'_succ v (t + d)]
    refine ((ih (upd v (t + d) (v (t + d + 1))) t).append_right _).trans ?_
    rw [ls'_succ]
    rw [show t + (d + 1) = t + d + 1 from rfl] at h3 h4
    rw [h3, h4, List.append_assoc, List.append_assoc]
    exact List.Perm.append_left _ (List.Perm.swap _ _ _)
theorem ls'_perm_up {v w : Nat → Int32} {k : Nat} (h : (ls' w k).Perm (ls' v k)) : ∀ n, k ≤ n → (∀ j, k ≤ j → j < n → w j = v j) → (ls' w n).Perm (ls' v n) := by
  intro n
  induction n with
  | zero => intro hk _; have : k = 0 := by omega
            subst this; exact h
  | succ n ih =>
    intro hk hj
    rcases Nat.lt_or_ge n k with e | e
    · have : k = n + 1 := by omega
      subst this; exact h
    · rw [ls'_succ, ls'_succ, hj n e (by omega)]
      exact (ih e (fun j h1 h2 => hj j h1 (by omega))).append_right _
/-- one more value put in its place -/
theorem ins_step {f v : Nat → Int32} {n k t : Nat} (h : insI f v n k) (hk : k < n) (ht : t ≤ k) (hx : t = 0 ∨ v (t - 1) ≤ v k) (hy : ∀ j, t ≤ j → j < k → v k < v j) : insI f (upd (shf v t k) t (v k)) n (k + 1) := by
  obtain ⟨hp, hs, ho⟩ := h
  have g0 : ∀ j, j < t → upd (shf v t k) t (v k) j = v j := fun j hj => by rw [pk_un (by omega), shf_out v (by omega)]
  have g1 : upd (shf v t k) t (v k) t = v k := pk_us
  have g2 : ∀ j, t < j → j ≤ k → upd (shf v t k) t (v k) j = v (j - 1) := fun j h1 h2 => by rw [pk_un (by omega), shf_in v h1 h2]
  have g3 : ∀ j, k < j → upd (shf v t k) t (v k) j = v j := fun j hj => by rw [pk_un (by omega), shf_out v (by omega)]
  refine ⟨?_, ?_, ?_⟩
  · refine List.Perm.trans ?_ hp
    obtain ⟨d, rfl⟩ : ∃ d, k = t + d := ⟨k - t, by omega⟩
    exact ls'_perm_up (ins_perm d v t) n (by omega) (fun j h1 _ => g3 j (by omega))
  · intro i j hij hj
    rcases Nat.lt_trichotomy j t with e | e | e
    · rw [g0 i (by omega), g0 j e]; exact hs i j hij (by omega)
    · subst e
      rw [g0 i hij, g1]
      rcases hx with hx | hx
      · omega
      · rcases Nat.lt_or_ge i (j - 1) with e2 | e2
        · exact Int32.le_trans (hs i (j - 1) e2 (by omega)) hx
        · have : i = j - 1 := by omega
          subst this; exact hx
    · rw [g2 j e (by omega)]
      rcases Nat.lt_trichotomy i t with e3 | e3 | e3
      · rw [g0 i e3]
        exact hs i (j - 1) (by omega) (by omega)
      · subst e3
        rw [g1]
        exact Int32.le_of_lt (hy (j - 1) (by omega) (by omega))
      · rw [g2 i e3 (by omega)]
        exact hs (i - 1) (j - 1) (by omega) (by omega)
  · intro j hj
    rw [g3 j (by omega)]
    exact ho j hj
theorem shf_hy {v : Nat → Int32} {t k : Nat} (hy : ∀ j, t ≤ j → j < k → v k < v j) (h0 : 0 < t) (hx : v k < v (t - 1)) : ∀ j, t - 1 ≤ j → j < k → v k < v j := by
  intro j h1 h2
  rcases Nat.lt_or_ge j t with e | e
  · have : j = t - 1 := by omega
    subst this; exact hx
  · exact hy j e h2
-- ===== the reckoning's parts =====
/-- what is left of the k-th seer -/
def lfv (mi : Nat → Int32) (ma : Nat → Nat → Int32) (q : Nat → Nat) (k : Nat) : Int32 := ma 3 k - rise (mi 4) (gL (ma 0) (q k) 0) - mi 5
/-- the best of the first k: the greatest a, of several the least q -/
def bt (a : Nat → Int32) (q : Nat → Nat) (k b : Nat) : Bool := decide (0 < a k - a b) || (decide (a k - a b = 0) && decide (q k < q b))
def ob (a : Nat → Int32) (q : Nat → Nat) : Nat → Nat
  | 0 => 0
  | k + 1 => if bt a q k (ob a q k) = true then k else ob a q k
theorem ob_lt (a : Nat → Int32) (q : Nat → Nat) : ∀ k, 0 < k → ob a q k < k := by
  intro k
  induction k with
  | zero => intro h; omega
  | succ k ih =>
    intro _
    show (if bt a q k (ob a q k) = true then k else ob a q k) < k + 1
    split
    · omega
    · rcases Nat.eq_zero_or_pos k with h | h
      · subst h; show 0 < 0 + 1; omega
      · have := ih h; omega
theorem ob_1 (a : Nat → Int32) (q : Nat → Nat) : ob a q 1 = 0 := by
  show (if bt a q 0 (ob a q 0) = true then 0 else ob a q 0) = 0
  split <;> rfl
/-- the station with the least place beyond p, of the first k -/
def nx (P : Nat → Int32) (p : Int32) : Nat → Option Nat
  | 0 => none
  | k + 1 => match nx P p k with
    | none => if p < P k then some k else none
    | some j => if p < P k ∧ P k < P j then some k else some j
def onI : Option Nat → Int32
  | none => -1
  | some j => nI j
theorem nI_m1 {j : Nat} (h : j < 2 ^ 31) : ¬ nI j = -1 := fun z => by
  have h2 := nI_pos (n := j) h
  rw [z] at h2
  exact h2 (by decide)
theorem nx_lt (P : Nat → Int32) (p : Int32) : ∀ k j, nx P p k = some j → j < k := by
  intro k
  induction k with
  | zero => intro j h; cases h
  | succ k ih =>
    intro j h
    simp only [nx] at h
    cases hb : nx P p k with
    | none => rw [hb] at h
              by_cases c : p < P k
              · simp only [if_pos c] at h; have e := Option.some.inj h; omega
              · simp only [if_neg c] at h; cases h
    | some i => rw [hb] at h
                by_cases c : p < P k ∧ P k < P i
                · simp only [if_pos c] at h; have e := Option.some.inj h; omega
                · simp only [if_neg c] at h; have e := Option.some.inj h; have e2 := ih i hb; omega
/-- the longest row that goes as c says -/
def wlL (c : Nat → Nat → Bool) : Nat → List Nat
  | 0 => []
  | k + 1 => wlL c k ++ [(List.range k).foldl (fun x i => if c i k = true then max x ((wlL c k).getD i 0 + 1) else x) 1]
def wf (c : Nat → Nat → Bool) (k : Nat) : Nat := (wlL c (k + 1)).getD k 0
def inn (c : Nat → Nat → Bool) (k : Nat) : Nat → Nat
  | 0 => 1
  | i + 1 => if c i k = true then max (inn c k i) (wf c i + 1) else inn c k i
theorem wlL_len (c : Nat → Nat → Bool) : ∀ k, (wlL c k).length = k
  | 0 => rfl
  | k + 1 => by simp [wlL, wlL_len c k]
theorem wlL_get (c : Nat → Nat → Bool) (i : Nat) : ∀ k, i < k → (wlL c k).getD i 0 = wf c i := by
  intro k
  induction k with
  | zero => intro h; omega
  | succ k ih =>
    intro h
    rcases Nat.lt_or_ge i k with e | e
    · rw [← ih e, wlL, List.getD_eq_getElem?_getD, List.getElem?_append_left (by rw [wlL_len]; exact e), ← List.getD_eq_getElem?_getD]
    · have : i = k := by omega
      subst this; rfl
theorem inn_eq (c : Nat → Nat → Bool) (k : Nat) : ∀ i, i ≤ k → inn c k i = (List.range i).foldl (fun x i => if c i k = true then max x ((wlL c k).getD i 0 + 1) else x) 1 := by
  intro i
  induction i with
  | zero => intro _; rfl
  | succ i ih =>
    intro h
    rw [List.range_succ, List.foldl_append, ← ih (by omega)]
    simp only [List.foldl_cons, List.foldl_nil, inn]
    rw [wlL_get c i k (by omega)]
theorem wf_eq (c : Nat → Nat → Bool) (k : Nat) : wf c k = inn c k k := by
  rw [inn_eq c k k (Nat.le_refl _)]
  unfold wf
  rw [wlL, List.getD_eq_getElem?_getD, List.getElem?_append_right (by rw [wlL_len]; exact Nat.le_refl _), wlL_len, Nat.sub_self]
  rfl
theorem inn_le (c : Nat → Nat → Bool) : ∀ k i, i ≤ k → inn c k i ≤ k + 1 := by
  intro k
  induction k using Nat.strongRecOn with
  | ind k ih =>
    intro i
    induction i with
    | zero => intro _; show 1 ≤ k + 1; omega
    | succ i ih2 =>
      intro h
      have h1 := ih2 (by omega)
      have h2 := ih i (by omega) i (Nat.le_refl _)
      rw [← wf_eq] at h2
      show (if c i k = true then max (inn c k i) (wf c i + 1) else inn c k i) ≤ k + 1
      split
      · omega
      · exact h1
theorem wf_le (c : Nat → Nat → Bool) (k : Nat) : wf c k ≤ k + 1 := by rw [wf_eq]; exact inn_le c k k (Nat.le_refl _)
def lrun (c : Nat → Nat → Bool) : Nat → Nat
  | 0 => 0
  | k + 1 => max (lrun c k) (wf c k)
theorem lrun_le (c : Nat → Nat → Bool) : ∀ k, lrun c k ≤ k
  | 0 => Nat.le_refl 0
  | k + 1 => by
    have h := lrun_le c k
    have h2 := wf_le c k
    show max (lrun c k) (wf c k) ≤ k + 1
    omega
theorem mx_nat {a b : Nat} (ha : a < 2 ^ 31) (hb : b < 2 ^ 31) : mx (nI a) (nI b) = nI (max a b) := by
  unfold mx
  by_cases h : a < b
  · rw [if_pos ((nI_ltI ha hb).mpr h), Nat.max_eq_right (by omega)]
  · rw [if_neg (mt (nI_ltI ha hb).mp h), Nat.max_eq_left (by omega)]
theorem upd_upd (f : Nat → Int32) (k : Nat) (x y : Int32) : upd (upd f k x) k y = upd f k y := by
  funext j
  by_cases e : j = k
  · rw [e, pk_us, pk_us]
  · rw [pk_un e, pk_un e, pk_un e]
/-- which readings never fall (sign 1), never rise (sign -1) -/
def gc (sg : Int32) (r : Nat → Int32) (i k : Nat) : Bool := decide (sg * r i ≤ sg * r k)
theorem va_up_eta {α : Type} (f : Nat → α) (k : Nat) : va_up f k (f k) = f := by
  funext j
  by_cases e : j = k
  · rw [e]; exact if_pos rfl
  · exact if_neg e
theorem upd_all {v g : Nat → Int32} {k : Nat} {y : Int32} (h : ∀ x, x < k → v x = g x) (hy : y = g k) : ∀ x, x < k + 1 → upd v k y x = g x := by
  intro x hx
  rcases Nat.lt_or_ge x k with e | e
  · rw [pk_un (by omega)]; exact h x e
  · have e2 : x = k := by omega
    rw [e2, pk_us]; exact hy
