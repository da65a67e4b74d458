/-! how far; who meets; what comes of it -/
def ad (a b : Nat) : Nat := if a < b then b - a else a - b
theorem ad_lt {a b : Nat} (ha : a < 20) (hb : b < 20) : ad a b < 20 := by unfold ad; split <;> omega
theorem ad_self (a : Nat) : ad a a = 0 := by unfold ad; rw [if_neg (Nat.lt_irrefl _)]; omega
theorem ad_sym (a b : Nat) : ad a b = ad b a := by unfold ad; split <;> split <;> omega
theorem ad_tri (a b c : Nat) : ad a c ≤ ad a b + ad b c := by unfold ad; split <;> split <;> split <;> omega
theorem ad_abs {a b : Nat} (ha : a < 20) (hb : b < 20) : (if 0 ≤ nI a - nI b then nI a - nI b else 0 - (nI a - nI b)) = nI (ad a b) := by
  have e := pk_sub_toInt (a := a) (b := b) (by omega) (by omega)
  unfold ad
  by_cases h : a < b
  · rw [if_pos h, if_neg (by rw [fa_le, e, Int32.toInt_zero]; omega)]
    apply Int32.toInt_inj.mp
    rw [fb_subI (by rw [e, Int32.toInt_zero]; omega) (by rw [e, Int32.toInt_zero]; omega), e, Int32.toInt_zero, nI_toInt (by omega)]
    omega
  · rw [if_neg h, if_pos (by rw [fa_le, e, Int32.toInt_zero]; omega)]
    apply Int32.toInt_inj.mp
    rw [e, nI_toInt (by omega)]
    omega
def fr (N : NS) (p q : Nat) : Nat := ad (N_x N p) (N_x N q) + ad (N_y N p) (N_y N q)
theorem fr_lt {N : NS} (ok : N_ok N) {p q : Nat} (hp : p < 6) (hq : q < 6) : fr N p q < 40 := by
  have h1 := ok.2.2.2.2.2.1 p hp
  have h2 := ok.2.2.2.2.2.1 q hq
  have := ad_lt h1.1 h2.1
  have := ad_lt h1.2.1 h2.2.1
  unfold fr
  omega
theorem fr_self (N : NS) (p : Nat) : fr N p p = 0 := by unfold fr; rw [ad_self, ad_self]
theorem fr_sym (N : NS) (p q : Nat) : fr N p q = fr N q p := by unfold fr; rw [ad_sym, ad_sym (N_y N p)]
theorem fr_tri (N : NS) (p q r : Nat) : fr N p r ≤ fr N p q + fr N q r := by
  have := ad_tri (N_x N p) (N_x N q) (N_x N r)
  have := ad_tri (N_y N p) (N_y N q) (N_y N r)
  unfold fr
  omega
def fi (N : NS) (p i : Nat) : Nat := ad (N_x N p) (N_ix N i) + ad (N_y N p) (N_iy N i)
theorem fi_lt {N : NS} (ok : N_ok N) {p i : Nat} (hp : p < 6) (hi : i < 4) : fi N p i < 40 := by
  have h1 := ok.2.2.2.2.2.1 p hp
  have h2 := ok.2.2.2.2.2.2.2.2.2.1 i hi
  have := ad_lt h1.1 h2.1
  have := ad_lt h1.2.1 h2.2
  unfold fi
  omega
theorem fr_fi (N : NS) (p q i : Nat) : fr N p q ≤ fi N p i + fi N q i := by
  have := ad_tri (N_x N p) (N_ix N i) (N_x N q)
  have := ad_tri (N_y N p) (N_iy N i) (N_y N q)
  have := ad_sym (N_ix N i) (N_x N q)
  have := ad_sym (N_iy N i) (N_y N q)
  unfold fr fi
  omega
/-- of a set to an inn -/
def toI (N : NS) (i s : Nat) (n : Nat) : Nat := fb_sm (fun p => if s / 2 ^ p % 2 = 1 then fi N p i else 0) n
/-- of told coats from their owners -/
def ffo (N : NS) (t : Nat → Nat) (c : Nat) (n : Nat) : Nat := fb_sm (fun p => if ¬ t p = p ∧ c / 2 ^ t p % 2 = 1 then fr N p (t p) else 0) n
theorem toI_lt {N : NS} (ok : N_ok N) {i : Nat} (hi : i < 4) (s : Nat) {n : Nat} (hn : n ≤ 6) : toI N i s n ≤ n * 40 := by
  apply fb_sm_bound
  intro k hk
  have := fi_lt ok (show k < 6 by omega) hi
  split <;> omega
theorem ffo_lt {N : NS} (ok : N_ok N) {t : Nat → Nat} (ht : Pm t) (c : Nat) {n : Nat} (hn : n ≤ 6) : ffo N t c n ≤ n * 40 := by
  apply fb_sm_bound
  intro k hk
  have := fr_lt ok (show k < 6 by omega) (ht.1 k (by omega))
  split <;> omega
/-- coats of a set -/
def cot (t : Nat → Nat) (s : Nat) : Nat → Nat
  | 0 => 0
  | p + 1 => if s / 2 ^ p % 2 = 1 then cot t s p ||| 2 ^ t p else cot t s p
theorem cot_lt {t : Nat → Nat} (ht : Pm t) (s : Nat) : ∀ p, p ≤ 6 → cot t s p < 64
  | 0, _ => (show 0 < 64 by decide)
  | p + 1, hp => by
    have ih := cot_lt ht s p (by omega)
    unfold cot
    split
    · exact b_or (k := 6) ih (p6_lt (ht.1 p (by omega)))
    · exact ih
theorem cot_bit {t : Nat → Nat} (s q : Nat) : ∀ p, cot t s p / 2 ^ q % 2 = 1 ↔ ∃ r, r < p ∧ s / 2 ^ r % 2 = 1 ∧ t r = q
  | 0 => ⟨fun h => absurd h (b_zero q), fun ⟨r, h, _⟩ => absurd h (Nat.not_lt_zero _)⟩
  | p + 1 => by
    have ih := cot_bit (t := t) s q p
    unfold cot
    by_cases e : s / 2 ^ p % 2 = 1
    · rw [if_pos e, b_orr, b_pow, ih]
      refine ⟨fun h => ?_, fun ⟨r, h1, h2, h3⟩ => ?_⟩
      · rcases h with ⟨r, h1, h2, h3⟩ | h
        · exact ⟨r, by omega, h2, h3⟩
        · exact ⟨p, by omega, e, h⟩
      · by_cases q2 : r = p
        · subst q2; exact Or.inr h3
        · exact Or.inl ⟨r, by omega, h2, h3⟩
    · rw [if_neg e, ih]
      refine ⟨fun ⟨r, h1, h2, h3⟩ => ⟨r, by omega, h2, h3⟩, fun ⟨r, h1, h2, h3⟩ => ⟨r, ?_, h2, h3⟩⟩
      by_cases q2 : r = p
      · subst q2; exact absurd h2 e
      · omega
theorem b_out {s n p : Nat} (h : s < 2 ^ n) (hp : n ≤ p) : ¬ s / 2 ^ p % 2 = 1 := by
  rw [Nat.div_eq_of_lt (Nat.lt_of_lt_of_le h (Nat.pow_le_pow_right (by decide) hp))]
  decide
theorem cot_n {t : Nat → Nat} {s n : Nat} (h : s < 2 ^ n) : ∀ k, cot t s (n + k) = cot t s n
  | 0 => rfl
  | k + 1 => by
    show cot t s ((n + k) + 1) = _
    unfold cot
    rw [if_neg (b_out h (by omega)), cot_n h k]
    cases n <;> rfl
/-- sums over a row of different numbers -/
theorem pm_perm : pl6.all (fun t => ((List.range 6).map t).isPerm (List.range 6)) = true := by decide +kernel
theorem Pm.perm {t : Nat → Nat} (ht : Pm t) : ((List.range 6).map t).Perm (List.range 6) := List.isPerm_iff.mp (ht.all pm_perm)
theorem Pm.sum {t : Nat → Nat} (ht : Pm t) (f : Nat → Nat) : fb_sm (fun k => f (t k)) 6 = fb_sm f 6 := by
  have h := (ht.perm.map f).sum_nat
  have e : ∀ g : Nat → Nat, fb_sm g 6 = ((List.range 6).map g).sum := by
    intro g
    simp [fb_sm, List.range_succ]
    omega
  rw [e, e, ← h, List.map_map]
  rfl
theorem pop_sm (s : Nat) : pop s = fb_sm (fun k => s / 2 ^ k % 2) 6 := by
  unfold pop
  simp [fb_sm]
theorem cot_pop {t : Nat → Nat} (ht : Pm t) (s : Nat) : pop (cot t s 6) = pop s := by
  rw [pop_sm, pop_sm]
  have e : fb_sm (fun k => cot t s 6 / 2 ^ t k % 2) 6 = fb_sm (fun k => s / 2 ^ k % 2) 6 := by
    apply fb_sm_cong
    intro k hk
    have hb := cot_bit (t := t) s (t k) 6
    have h2 : cot t s 6 / 2 ^ t k % 2 = 1 ↔ s / 2 ^ k % 2 = 1 := by
      rw [hb]
      refine ⟨fun ⟨r, h1, h2, h3⟩ => ?_, fun h => ⟨k, hk, h, rfl⟩⟩
      rw [← ht.2.1 r k h1 hk h3]
      exact h2
    rcases b_01 (cot t s 6) (t k) with q1 | q1 <;> rcases b_01 s k with q2 | q2 <;> omega
  rw [← e]
  exact (ht.sum (fun k => cot t s 6 / 2 ^ k % 2)).symm
/-- what is left to give before p; what p gets of a set that has met -/
def stl (s c : Nat) : Nat → Nat
  | 0 => c &&& (63 ^^^ s)
  | p + 1 => if s / 2 ^ p % 2 = 1 ∧ ¬ c / 2 ^ p % 2 = 1 then stl s c p &&& (stl s c p - 1) else stl s c p
def sf (s c p : Nat) : Nat := if c / 2 ^ p % 2 = 1 then p else tz (stl s c p)
theorem sf_all : (List.range 64).all (fun s => (List.range 64).all (fun c => pop s != pop c || (List.range 6).all (fun p => !decide (s / 2 ^ p % 2 = 1) || (decide (sf s c p < 6) && decide (c / 2 ^ sf s c p % 2 = 1) && (decide (c / 2 ^ p % 2 = 1) || stl s c p != 0) && (List.range p).all (fun q => !decide (s / 2 ^ q % 2 = 1) || sf s c q != sf s c p))))) = true := by decide +kernel
theorem sf_t {s c p : Nat} (hs : s < 64) (hc : c < 64) (hsc : pop s = pop c) (hp : p < 6) (h : s / 2 ^ p % 2 = 1) : sf s c p < 6 ∧ c / 2 ^ sf s c p % 2 = 1 ∧ (c / 2 ^ p % 2 = 1 ∨ stl s c p ≠ 0) ∧ ∀ q, q < p → s / 2 ^ q % 2 = 1 → sf s c q ≠ sf s c p := by
  have h1 := List.all_eq_true.mp (List.all_eq_true.mp sf_all s (List.mem_range.mpr hs)) c (List.mem_range.mpr hc)
  have h2 : (pop s != pop c) = false := by rw [hsc]; exact bne_self_eq_false _
  rw [h2, Bool.false_or] at h1
  have h3 := List.all_eq_true.mp h1 p (List.mem_range.mpr hp)
  rw [decide_eq_true h, Bool.not_true, Bool.false_or] at h3
  simp only [Bool.and_eq_true, decide_eq_true_eq, Bool.or_eq_true, bne_iff_ne, List.all_eq_true, List.mem_range, Bool.not_eq_true', decide_eq_false_iff_not] at h3
  exact ⟨h3.1.1.1, h3.1.1.2, h3.1.2, fun q hq hq2 => (h3.2 q hq).resolve_left (fun z => z hq2)⟩
theorem stl_lt {s c : Nat} (hc : c < 64) : ∀ p, stl s c p < 64
  | 0 => and_63 hc
  | p + 1 => by
    have ih := stl_lt (s := s) hc p
    unfold stl
    split
    · exact and_63 ih
    · exact ih
/-- the row while it is settled, and then -/
def stq (t : Nat → Nat) (s c j : Nat) : Nat → Nat := fun k => if k < j ∧ s / 2 ^ k % 2 = 1 then sf s c k else t k
def stt (t : Nat → Nat) (s : Nat) : Nat → Nat := stq t s (cot t s 6) 6
theorem stq_0 (t : Nat → Nat) (s c : Nat) : stq t s c 0 = t := funext fun k => if_neg (fun q => Nat.not_lt_zero _ q.1)
theorem stq_y {t : Nat → Nat} {s c j : Nat} (h : s / 2 ^ j % 2 = 1) : ud (stq t s c j) j (sf s c j) = stq t s c (j + 1) := by
  funext k
  unfold stq ud
  by_cases e : k = j
  · subst e; rw [if_pos rfl, if_pos ⟨by omega, h⟩]
  · rw [if_neg e]
    show (if k < j ∧ s / 2 ^ k % 2 = 1 then sf s c k else t k) = _
    by_cases q : k < j ∧ s / 2 ^ k % 2 = 1
    · rw [if_pos q, if_pos ⟨by omega, q.2⟩]
    · rw [if_neg q, if_neg (fun z => q ⟨by omega, z.2⟩)]
theorem stq_n {t : Nat → Nat} {s c j : Nat} (h : ¬ s / 2 ^ j % 2 = 1) : stq t s c j = stq t s c (j + 1) := by
  funext k
  unfold stq
  by_cases e : k = j
  · subst e; rw [if_neg (fun z => h z.2), if_neg (fun z => h z.2)]
  · by_cases q : k < j ∧ s / 2 ^ k % 2 = 1
    · rw [if_pos q, if_pos ⟨by omega, q.2⟩]
    · rw [if_neg q, if_neg (fun z => q ⟨by omega, z.2⟩)]
theorem stq_8 {t : Nat → Nat} (ht : Pm t) {s c : Nat} (hs : s < 64) (hc : c < 64) (hsc : pop s = pop c) (j : Nat) : ∀ k, k < 6 → stq t s c j k < 8 := by
  intro k hk
  unfold stq
  split
  · next q =>
    have := (sf_t hs hc hsc hk q.2).1
    omega
  · exact ht.lt8 k hk
theorem stt_pm {t : Nat → Nat} (ht : Pm t) {s : Nat} (hs : s < 64) : Pm (stt t s) := by
  have hc := cot_lt ht s 6 (by decide)
  have hp := (cot_pop ht s).symm
  have lt : ∀ k, k < 6 → stt t s k < 6 := by
    intro k hk
    unfold stt stq
    split
    · next q => exact (sf_t hs hc hp hk q.2).1
    · exact ht.1 k hk
  refine ⟨lt, fun i j hi hj e => ?_, fun k hk => ?_⟩
  · unfold stt stq at e
    by_cases qi : i < 6 ∧ s / 2 ^ i % 2 = 1
    · by_cases qj : j < 6 ∧ s / 2 ^ j % 2 = 1
      · rw [if_pos qi, if_pos qj] at e
        rcases Nat.lt_trichotomy i j with z | z | z
        · exact absurd e ((sf_t hs hc hp hj qj.2).2.2.2 i z qi.2)
        · exact z
        · exact absurd e.symm ((sf_t hs hc hp hi qi.2).2.2.2 j z qj.2)
      · rw [if_pos qi, if_neg qj] at e
        have b := (sf_t hs hc hp hi qi.2).2.1
        rw [e] at b
        obtain ⟨r, r1, r2, r3⟩ := (cot_bit s (t j) 6).mp b
        have := ht.2.1 r j r1 hj r3
        subst this
        exact absurd ⟨hj, r2⟩ qj
    · by_cases qj : j < 6 ∧ s / 2 ^ j % 2 = 1
      · rw [if_neg qi, if_pos qj] at e
        have b := (sf_t hs hc hp hj qj.2).2.1
        rw [← e] at b
        obtain ⟨r, r1, r2, r3⟩ := (cot_bit s (t i) 6).mp b
        have := ht.2.1 r i r1 hi r3
        subst this
        exact absurd ⟨hi, r2⟩ qi
      · rw [if_neg qi, if_neg qj] at e
        exact ht.2.1 i j hi hj e
  · unfold stt stq
    rw [if_neg (fun z => absurd z.1 (by omega)), ht.2.2 k hk]
theorem stt_out {t : Nat → Nat} {s n : Nat} (hs : s < 2 ^ n) (hf : ∀ k, n ≤ k → t k = k) : ∀ k, n ≤ k → stt t s k = k := by
  intro k hk
  unfold stt stq
  rw [if_neg (fun z => b_out hs hk z.2), hf k hk]
theorem sw_pm {t : Nat → Nat} (ht : Pm t) {i j : Nat} (hi : i < 6) (hj : j < 6) : Pm (sw t i j) := by
  rw [sw_eq]
  refine ⟨fun k hk => ?_, fun a b ha hb e => ?_, fun k hk => ?_⟩
  · show (if k = i then t j else if k = j then t i else t k) < 6
    split
    · exact ht.1 j hj
    · split
      · exact ht.1 i hi
      · exact ht.1 k hk
  · simp only at e
    have q := ht.2.1
    by_cases a1 : a = i
    · rw [if_pos a1] at e
      by_cases b1 : b = i
      · omega
      · rw [if_neg b1] at e
        by_cases b2 : b = j
        · rw [if_pos b2] at e
          have := q j i hj hi e
          omega
        · rw [if_neg b2] at e
          have := q j b hj hb e
          omega
    · rw [if_neg a1] at e
      by_cases a2 : a = j
      · rw [if_pos a2] at e
        by_cases b1 : b = i
        · rw [if_pos b1] at e
          have := q i j hi hj e
          omega
        · rw [if_neg b1] at e
          by_cases b2 : b = j
          · omega
          · rw [if_neg b2] at e
            have := q i b hi hb e
            omega
      · rw [if_neg a2] at e
        by_cases b1 : b = i
        · rw [if_pos b1] at e
          have := q a j ha hj e
          omega
        · rw [if_neg b1] at e
          by_cases b2 : b = j
          · rw [if_pos b2] at e
            have := q a i ha hi e
            omega
          · rw [if_neg b2] at e
            exact q a b ha hb e
  · show (if k = i then t j else if k = j then t i else t k) = k
    rw [if_neg (by omega), if_neg (by omega), ht.2.2 k hk]
theorem sw_fx {t : Nat → Nat} {n i j : Nat} (hi : i < n) (hj : j < n) (hf : ∀ k, n ≤ k → t k = k) : ∀ k, n ≤ k → sw t i j k = k := by
  intro k hk
  rw [sw_eq]
  show (if k = i then t j else if k = j then t i else t k) = k
  rw [if_neg (by omega), if_neg (by omega), hf k hk]
