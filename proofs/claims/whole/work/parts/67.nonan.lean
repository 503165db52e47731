-- ===== a quotient of a whole number by 2 to 12 is a number =====
def fpG : FP.Core.Datum → Prop
  | .nan => False
  | .inf _ => True
  | .fin _ c q => c < 9007199254740992 ∧ q ≤ 971
theorem fp_enc {d : FP.Core.Datum} (h : fpG d) : ∃ s m : Nat, FP.Core.encode FP.Core.b64 d = s * 9223372036854775808 + m ∧ s ≤ 1 ∧ m ≤ 9218868437227405312 := by
  have et : FP.Core.Fmt.tails FP.Core.b64 = 4503599627370496 := by decide +kernel
  have ee : FP.Core.Fmt.exps FP.Core.b64 = 2048 := by decide +kernel
  have eq : FP.Core.Fmt.qmin FP.Core.b64 = -1074 := by decide +kernel
  have hs : ∀ s : Bool, s.toNat ≤ 1 := fun s => by cases s <;> decide
  match d, h with
  | .inf s, _ =>
    refine ⟨s.toNat, 9218868437227405312, ?_, hs s, Nat.le_refl _⟩
    show (s.toNat * FP.Core.Fmt.exps FP.Core.b64 + (FP.Core.Fmt.exps FP.Core.b64 - 1)) * FP.Core.Fmt.tails FP.Core.b64 + 0 = _
    rw [et, ee]; omega
  | .fin s c q, h =>
    have h1 : c < 9007199254740992 := h.1
    have h2 : q ≤ 971 := h.2
    show ∃ s' m : Nat, (if c < FP.Core.Fmt.tails FP.Core.b64 then (s.toNat * FP.Core.Fmt.exps FP.Core.b64 + 0) * FP.Core.Fmt.tails FP.Core.b64 + c else (s.toNat * FP.Core.Fmt.exps FP.Core.b64 + ((q - FP.Core.Fmt.qmin FP.Core.b64).toNat + 1)) * FP.Core.Fmt.tails FP.Core.b64 + (c - FP.Core.Fmt.tails FP.Core.b64)) = s' * 9223372036854775808 + m ∧ s' ≤ 1 ∧ m ≤ 9218868437227405312
    rw [et, ee, eq]
    by_cases hc : c < 4503599627370496
    · rw [if_pos hc]
      exact ⟨s.toNat, c, by omega, hs s, by omega⟩
    · rw [if_neg hc]
      obtain ⟨z, hz⟩ : ∃ z : Nat, (q - -1074).toNat = z := ⟨_, rfl⟩
      rw [hz]
      have hz2 : z ≤ 2045 := by omega
      exact ⟨s.toNat, (z + 1) * 4503599627370496 + (c - 4503599627370496), by omega, hs s, by omega⟩
theorem fp_bound (s : Bool) {c : Nat} (q : Int) (hc : c < 9007199254740992) : fpG (FP.Core.bound FP.Core.b64 s c q) := by
  have em : FP.Core.Fmt.qmax FP.Core.b64 = 971 := by decide +kernel
  unfold FP.Core.bound
  rw [em]
  by_cases h : q ≤ 971
  · rw [if_pos h]; exact ⟨hc, h⟩
  · rw [if_neg h]; trivial
theorem fp_ratio (s : Bool) (n d : Nat) (e : Int) : fpG (FP.Core.roundRatio FP.Core.b64 s n d e) := by
  have eq : FP.Core.Fmt.qmin FP.Core.b64 = -1074 := by decide +kernel
  have et : FP.Core.Fmt.tails FP.Core.b64 = 4503599627370496 := by decide +kernel
  have ep : 2 ^ FP.Core.Fmt.p FP.Core.b64 = 9007199254740992 := by decide +kernel
  unfold FP.Core.roundRatio
  by_cases h : n = 0
  · rw [if_pos h, eq]; exact ⟨by decide, by decide⟩
  · rw [if_neg h]
    unfold FP.Core.roundAt FP.Core.settle
    rw [ep, et]
    split
    · exact fp_bound s _ (by assumption)
    · exact fp_bound s _ (by decide)
theorem fp_dec {s m : Nat} (_ : s ≤ 1) (hm : m ≤ 9218868437227405312) : FP.Core.decode FP.Core.b64 (s * 9223372036854775808 + m) ≠ .nan := by
  have et : FP.Core.Fmt.tails FP.Core.b64 = 4503599627370496 := by decide +kernel
  have ee : FP.Core.Fmt.exps FP.Core.b64 = 2048 := by decide +kernel
  unfold FP.Core.decode FP.Core.fieldE FP.Core.fieldT
  rw [et, ee]
  by_cases h : (s * 9223372036854775808 + m) / 4503599627370496 % 2048 = 2048 - 1
  · rw [if_pos h, if_pos (show (s * 9223372036854775808 + m) % 4503599627370496 = 0 by omega)]
    intro z; cases z
  · rw [if_neg h]
    split <;> (intro z; cases z)
theorem fp_nat {s m : Nat} (hs : s ≤ 1) (hm : m ≤ 9218868437227405312) : (UInt64.ofNat (s * 9223372036854775808 + m)).toNat = s * 9223372036854775808 + m := by
  rw [UInt64.toNat_ofNat']
  exact Nat.mod_eq_of_lt (by omega)
def fpZ : FP.Core.Datum → Bool
  | .fin _ d _ => !(d == 0)
  | _ => false
theorem fp_k : ∀ k : Nat, k < 13 → 2 ≤ k → fpZ (FP.Core.decode FP.Core.b64 (FP.i2d (nI k)).toNat) = true := by decide +kernel
theorem fp_quot {d1 d2 : FP.Core.Datum} (h1 : d1 ≠ .nan) (h2 : fpZ d2 = true) : fpG (FP.Core.quotient FP.Core.b64 d1 d2) := by
  match d2, h2 with
  | .fin t d r, h2 =>
    have hd : ¬ d = 0 := fun z => by subst z; cases h2
    match d1, h1 with
    | .nan, h1 => exact absurd rfl h1
    | .inf s, _ => trivial
    | .fin s c q, _ =>
      show fpG (if d = 0 then (if c = 0 then .nan else .inf (s != t)) else FP.Core.roundRatio FP.Core.b64 (s != t) c d (q - r))
      rw [if_neg hd]
      exact fp_ratio _ _ _ _
theorem noNaN_holds : noNaN := by
  intro x k hk hk2
  have hx : FP.Core.decode FP.Core.b64 (FP.l2d x).toNat ≠ .nan := by
    have hg : fpG (FP.Core.round FP.Core.b64 (FP.Core.ofInt x.toInt)) := fp_ratio _ _ _ _
    obtain ⟨s, m, e, hs, hm⟩ := fp_enc hg
    have e2 : (FP.l2d x).toNat = s * 9223372036854775808 + m := by
      show (UInt64.ofNat (FP.Core.encode FP.Core.b64 (FP.Core.round FP.Core.b64 (FP.Core.ofInt x.toInt)))).toNat = _
      rw [e, fp_nat hs hm]
    rw [e2]
    exact fp_dec hs hm
  obtain ⟨s, m, e, hs, hm⟩ := fp_enc (fp_quot hx (fp_k k (by omega) hk))
  show UInt64.ofNat (FP.Core.encode FP.Core.b64 (FP.Core.quotient FP.Core.b64 (FP.Core.decode FP.Core.b64 (FP.l2d x).toNat) (FP.Core.decode FP.Core.b64 (FP.i2d (nI k)).toNat))) &&& 0x7fffffffffffffff ≤ 0x7ff0000000000000
  rw [e, UInt64.le_iff_toNat_le, UInt64.toNat_and, fp_nat hs hm]
  show (s * 9223372036854775808 + m) &&& (2 ^ 63 - 1) ≤ 9218868437227405312
  rw [Nat.and_two_pow_sub_one_eq_mod]
  omega
