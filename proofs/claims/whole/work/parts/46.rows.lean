/-! rows of six numbers in one: what is at a place, a place changed -/
theorem pkb_lt {t : Nat → Nat} (h : ∀ k, k < 6 → t k < 8) : pk t < 262144 := by
  have h0 := h 0 (by decide)
  have h1 := h 1 (by decide)
  have h2 := h 2 (by decide)
  have h3 := h 3 (by decide)
  have h4 := h 4 (by decide)
  have h5 := h 5 (by decide)
  unfold pk
  omega
theorem at_sh : ∀ k, k < 6 → ((((nI 3 * nI k) &&& 31).toBitVec.smod 32).toNat = 3 * k) := by decide +kernel
theorem at_nat {n k : Nat} (hn : n < 2 ^ 31) (hk : k < 6) : nI n >>> ((nI 3 * nI k) &&& 31) &&& nI 7 = nI (n / 2 ^ (3 * k) % 8) := by
  rw [pk_shrN hn _ _ (at_sh k hk)]
  exact fa_mask _ 3
theorem at_pk {t : Nat → Nat} (h : ∀ k, k < 6 → t k < 8) {k : Nat} (hk : k < 6) : nI (pk t) >>> ((nI 3 * nI k) &&& 31) &&& nI 7 = nI (t k) := by
  rw [at_nat (Nat.lt_trans (pkb_lt h) (by decide)) hk]
  have h0 := h 0 (by decide)
  have h1 := h 1 (by decide)
  have h2 := h 2 (by decide)
  have h3 := h 3 (by decide)
  have h4 := h 4 (by decide)
  have h5 := h 5 (by decide)
  congr 1
  unfold pk
  match k, hk with
  | 0, _ => simp only [Nat.mul_zero, Nat.pow_zero]; omega
  | 1, _ => simp only [show 2 ^ (3 * 1) = 8 from rfl]; omega
  | 2, _ => simp only [show 2 ^ (3 * 2) = 64 from rfl]; omega
  | 3, _ => simp only [show 2 ^ (3 * 3) = 512 from rfl]; omega
  | 4, _ => simp only [show 2 ^ (3 * 4) = 4096 from rfl]; omega
  | 5, _ => simp only [show 2 ^ (3 * 5) = 32768 from rfl]; omega
  | k + 6, hk => exact absurd hk (by omega)
/-- a block of three bits taken out, another put in -/
theorem blk_and {a b lo hi d : Nat} (hl : lo < 2 ^ a) (hd : d < 8) (hh : hi < 2 ^ b) : (2 ^ a * (8 * hi + d) + lo) &&& (2 ^ a * (8 * (2 ^ b - 1)) + (2 ^ a - 1)) = 2 ^ a * (8 * hi) + lo := by
  have ha : 2 ^ a - 1 < 2 ^ a := by have := Nat.two_pow_pos a; omega
  apply Nat.eq_of_testBit_eq
  intro i
  rw [Nat.testBit_and, Nat.testBit_two_pow_mul_add _ hl, Nat.testBit_two_pow_mul_add _ ha, Nat.testBit_two_pow_mul_add _ hl]
  by_cases h1 : i < a
  · rw [if_pos h1, if_pos h1, if_pos h1, Nat.testBit_two_pow_sub_one, decide_eq_true h1, Bool.and_true]
  · rw [if_neg h1, if_neg h1, if_neg h1]
    generalize i - a = j
    have e1 := Nat.testBit_two_pow_mul_add (i := 3) hi (show d < 2 ^ 3 from hd) j
    have e2 := Nat.testBit_two_pow_mul_add (i := 3) (2 ^ b - 1) (show 0 < 2 ^ 3 by decide) j
    have e3 := Nat.testBit_two_pow_mul_add (i := 3) hi (show 0 < 2 ^ 3 by decide) j
    simp only [show 2 ^ 3 = 8 from rfl, Nat.add_zero] at e1 e2 e3
    rw [e1, e2, e3]
    by_cases h2 : j < 3
    · simp [h2]
    · rw [if_neg h2, if_neg h2, if_neg h2, Nat.testBit_two_pow_sub_one]
      by_cases h3 : j - 3 < b
      · simp [h3]
      · have : hi.testBit (j - 3) = false := Nat.testBit_lt_two_pow (Nat.lt_of_lt_of_le hh (Nat.pow_le_pow_right (by decide) (by omega)))
        simp [this]
theorem blk_or {a lo hi v : Nat} (hl : lo < 2 ^ a) (hv : v < 8) : (2 ^ a * (8 * hi) + lo) ||| (2 ^ a * v) = 2 ^ a * (8 * hi + v) + lo := by
  apply Nat.eq_of_testBit_eq
  intro i
  have e0 := Nat.testBit_two_pow_mul_add (i := a) v (show 0 < 2 ^ a from Nat.two_pow_pos a) i
  rw [Nat.add_zero] at e0
  rw [Nat.testBit_or, Nat.testBit_two_pow_mul_add _ hl, e0, Nat.testBit_two_pow_mul_add _ hl]
  by_cases h1 : i < a
  · simp [h1]
  · rw [if_neg h1, if_neg h1, if_neg h1]
    generalize i - a = j
    have e1 := Nat.testBit_two_pow_mul_add (i := 3) hi (show v < 2 ^ 3 from hv) j
    have e3 := Nat.testBit_two_pow_mul_add (i := 3) hi (show 0 < 2 ^ 3 by decide) j
    simp only [show 2 ^ 3 = 8 from rfl, Nat.add_zero] at e1 e3
    rw [e1, e3]
    by_cases h2 : j < 3
    · simp [h2]
    · have : v.testBit j = false := Nat.testBit_lt_two_pow (Nat.lt_of_lt_of_le hv (Nat.pow_le_pow_right (n := 2) (by decide) (show 3 ≤ j by omega)))
      simp [h2, this]
theorem wi_mask : ∀ k, k < 6 → (nI 7 <<< ((nI 3 * nI k) &&& 31)) ^^^ (-1) = nI (2 ^ (3 * k) * (8 * (2 ^ (29 - 3 * k) - 1)) + (2 ^ (3 * k) - 1)) := by decide +kernel
theorem wi_val : ∀ k, k < 6 → ∀ v, v < 8 → nI v <<< ((nI 3 * nI k) &&& 31) = nI (2 ^ (3 * k) * v) := by decide +kernel
theorem wi_nat {lo hi d v k : Nat} (hk : k < 6) (hl : lo < 2 ^ (3 * k)) (hd : d < 8) (hv : v < 8) (hh : hi < 2 ^ (29 - 3 * k)) : (nI (2 ^ (3 * k) * (8 * hi + d) + lo) &&& ((nI 7 <<< ((nI 3 * nI k) &&& 31)) ^^^ (-1))) ||| nI v <<< ((nI 3 * nI k) &&& 31) = nI (2 ^ (3 * k) * (8 * hi + v) + lo) := by
  rw [wi_mask k hk, wi_val k hk v hv, fa_and, blk_and hl hd hh, fa_or, blk_or hl hv]
theorem wi_pk {t : Nat → Nat} (h : ∀ k, k < 6 → t k < 8) {k v : Nat} (hk : k < 6) (hv : v < 8) : (nI (pk t) &&& ((nI 7 <<< ((nI 3 * nI k) &&& 31)) ^^^ (-1))) ||| nI v <<< ((nI 3 * nI k) &&& 31) = nI (pk (ud t k v)) := by
  have h0 := h 0 (by decide)
  have h1 := h 1 (by decide)
  have h2 := h 2 (by decide)
  have h3 := h 3 (by decide)
  have h4 := h 4 (by decide)
  have h5 := h 5 (by decide)
  match k, hk with
  | 0, hk =>
    have e := wi_nat (k := 0) (lo := 0) (d := t 0) (hi := t 1 + 8 * t 2 + 64 * t 3 + 512 * t 4 + 4096 * t 5) hk (by decide) h0 hv (by simp only [show 2 ^ (29 - 3 * 0) = 536870912 from rfl]; omega)
    have e1 : pk t = 2 ^ (3 * 0) * (8 * (t 1 + 8 * t 2 + 64 * t 3 + 512 * t 4 + 4096 * t 5) + t 0) + 0 := by unfold pk; simp only [show 2 ^ (3 * 0) = 1 from rfl]; omega
    have e2 : pk (ud t 0 v) = 2 ^ (3 * 0) * (8 * (t 1 + 8 * t 2 + 64 * t 3 + 512 * t 4 + 4096 * t 5) + v) + 0 := by unfold pk ud; simp only [show 2 ^ (3 * 0) = 1 from rfl]; simp; omega
    rw [e1, e2]; exact e
  | 1, hk =>
    have e := wi_nat (k := 1) (lo := t 0) (d := t 1) (hi := t 2 + 8 * t 3 + 64 * t 4 + 512 * t 5) hk (by simp only [show 2 ^ (3 * 1) = 8 from rfl]; omega) h1 hv (by simp only [show 2 ^ (29 - 3 * 1) = 67108864 from rfl]; omega)
    have e1 : pk t = 2 ^ (3 * 1) * (8 * (t 2 + 8 * t 3 + 64 * t 4 + 512 * t 5) + t 1) + t 0 := by unfold pk; simp only [show 2 ^ (3 * 1) = 8 from rfl]; omega
    have e2 : pk (ud t 1 v) = 2 ^ (3 * 1) * (8 * (t 2 + 8 * t 3 + 64 * t 4 + 512 * t 5) + v) + t 0 := by unfold pk ud; simp only [show 2 ^ (3 * 1) = 8 from rfl]; simp; omega
    rw [e1, e2]; exact e
  | 2, hk =>
    have e := wi_nat (k := 2) (lo := t 0 + 8 * t 1) (d := t 2) (hi := t 3 + 8 * t 4 + 64 * t 5) hk (by simp only [show 2 ^ (3 * 2) = 64 from rfl]; omega) h2 hv (by simp only [show 2 ^ (29 - 3 * 2) = 8388608 from rfl]; omega)
    have e1 : pk t = 2 ^ (3 * 2) * (8 * (t 3 + 8 * t 4 + 64 * t 5) + t 2) + (t 0 + 8 * t 1) := by unfold pk; simp only [show 2 ^ (3 * 2) = 64 from rfl]; omega
    have e2 : pk (ud t 2 v) = 2 ^ (3 * 2) * (8 * (t 3 + 8 * t 4 + 64 * t 5) + v) + (t 0 + 8 * t 1) := by unfold pk ud; simp only [show 2 ^ (3 * 2) = 64 from rfl]; simp; omega
    rw [e1, e2]; exact e
  | 3, hk =>
    have e := wi_nat (k := 3) (lo := t 0 + 8 * t 1 + 64 * t 2) (d := t 3) (hi := t 4 + 8 * t 5) hk (by simp only [show 2 ^ (3 * 3) = 512 from rfl]; omega) h3 hv (by simp only [show 2 ^ (29 - 3 * 3) = 1048576 from rfl]; omega)
    have e1 : pk t = 2 ^ (3 * 3) * (8 * (t 4 + 8 * t 5) + t 3) + (t 0 + 8 * t 1 + 64 * t 2) := by unfold pk; simp only [show 2 ^ (3 * 3) = 512 from rfl]; omega
    have e2 : pk (ud t 3 v) = 2 ^ (3 * 3) * (8 * (t 4 + 8 * t 5) + v) + (t 0 + 8 * t 1 + 64 * t 2) := by unfold pk ud; simp only [show 2 ^ (3 * 3) = 512 from rfl]; simp; omega
    rw [e1, e2]; exact e
  | 4, hk =>
    have e := wi_nat (k := 4) (lo := t 0 + 8 * t 1 + 64 * t 2 + 512 * t 3) (d := t 4) (hi := t 5) hk (by simp only [show 2 ^ (3 * 4) = 4096 from rfl]; omega) h4 hv (by simp only [show 2 ^ (29 - 3 * 4) = 131072 from rfl]; omega)
    have e1 : pk t = 2 ^ (3 * 4) * (8 * (t 5) + t 4) + (t 0 + 8 * t 1 + 64 * t 2 + 512 * t 3) := by unfold pk; simp only [show 2 ^ (3 * 4) = 4096 from rfl]; omega
    have e2 : pk (ud t 4 v) = 2 ^ (3 * 4) * (8 * (t 5) + v) + (t 0 + 8 * t 1 + 64 * t 2 + 512 * t 3) := by unfold pk ud; simp only [show 2 ^ (3 * 4) = 4096 from rfl]; simp; omega
    rw [e1, e2]; exact e
  | 5, hk =>
    have e := wi_nat (k := 5) (lo := t 0 + 8 * t 1 + 64 * t 2 + 512 * t 3 + 4096 * t 4) (d := t 5) (hi := 0) hk (by simp only [show 2 ^ (3 * 5) = 32768 from rfl]; omega) h5 hv (by decide)
    have e1 : pk t = 2 ^ (3 * 5) * (8 * 0 + t 5) + (t 0 + 8 * t 1 + 64 * t 2 + 512 * t 3 + 4096 * t 4) := by unfold pk; simp only [show 2 ^ (3 * 5) = 32768 from rfl]; omega
    have e2 : pk (ud t 5 v) = 2 ^ (3 * 5) * (8 * 0 + v) + (t 0 + 8 * t 1 + 64 * t 2 + 512 * t 3 + 4096 * t 4) := by unfold pk ud; simp only [show 2 ^ (3 * 5) = 32768 from rfl]; simp; omega
    rw [e1, e2]; exact e
  | k + 6, hk => exact absurd hk (by omega)
