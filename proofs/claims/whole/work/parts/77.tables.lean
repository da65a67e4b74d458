/-- the j-th digit from behind of a code, in sixes -/
def dgt (c j : Nat) : Nat := c / 6 ^ j % 6
theorem dgt_lt (c j : Nat) : dgt c j < 6 := Nat.mod_lt _ (by decide)
/-- whether the first j digits from behind are different, and below n -/
def okd (n c : Nat) : Nat → Bool
  | 0 => true
  | j + 1 => okd n c j && (decide (dgt c j < n) && !decide (sn (dgt c) j / 2 ^ dgt c j % 2 = 1))
def okc (n c : Nat) : Bool := okd n c n
/-- the row of a code -/
def prc (n c : Nat) : Nat → Nat := fun k => if k < n then dgt c (n - 1 - k) else k
def cd (x : Nat → Nat) : Nat → Nat
  | 0 => 0
  | k + 1 => 6 * cd x k + x k
theorem okd_iff (n c : Nat) : ∀ j, okd n c j = true ↔ ∀ i, i < j → dgt c i < n ∧ ∀ q, q < i → dgt c q ≠ dgt c i
  | 0 => ⟨fun _ i h => absurd h (Nat.not_lt_zero _), fun _ => rfl⟩
  | j + 1 => by
    unfold okd
    rw [Bool.and_eq_true, Bool.and_eq_true, okd_iff n c j, decide_eq_true_eq, Bool.not_eq_true', decide_eq_false_iff_not, sn_bit]
    constructor
    · intro ⟨h1, h2, h3⟩ i hi
      by_cases e : i = j
      · subst e; exact ⟨h2, fun q hq z => h3 ⟨q, hq, z⟩⟩
      · exact h1 i (by omega)
    · intro h
      exact ⟨fun i hi => h i (by omega), (h j (by omega)).1, fun ⟨q, hq, z⟩ => (h j (by omega)).2 q hq z⟩
theorem dgt_0 (a b : Nat) (hb : b < 6) : dgt (6 * a + b) 0 = b := by unfold dgt; rw [Nat.pow_zero, Nat.div_one]; omega
theorem dgt_s (a b i : Nat) (hb : b < 6) : dgt (6 * a + b) (i + 1) = dgt a i := by
  unfold dgt
  rw [Nat.pow_succ, Nat.mul_comm (6 ^ i) 6, ← Nat.div_div_eq_div_mul, show (6 * a + b) / 6 = a by omega]
theorem cd_dgt {x : Nat → Nat} : ∀ {n : Nat}, (∀ k, k < n → x k < 6) → ∀ i, i < n → dgt (cd x n) i = x (n - 1 - i)
  | 0, _, i, hi => absurd hi (Nat.not_lt_zero _)
  | n + 1, h, 0, _ => dgt_0 _ _ (h n (by omega))
  | n + 1, h, i + 1, hi => by
    show dgt (6 * cd x n + x n) (i + 1) = _
    rw [dgt_s _ _ _ (h n (by omega)), cd_dgt (fun k hk => h k (by omega)) i (by omega)]
    congr 1
    omega
theorem cd_lt {x : Nat → Nat} : ∀ {n : Nat}, (∀ k, k < n → x k < 6) → cd x n < 6 ^ n
  | 0, _ => (by decide : 0 < 1)
  | n + 1, h => by
    have := cd_lt (fun k hk => h k (Nat.lt_succ_of_lt hk))
    have := h n (by omega)
    rw [Nat.pow_succ]
    show 6 * cd x n + x n < _
    omega
theorem cd_cong {x y : Nat → Nat} : ∀ {n : Nat}, (∀ k, k < n → x k = y k) → cd x n = cd y n
  | 0, _ => rfl
  | n + 1, h => by
    show 6 * cd x n + x n = 6 * cd y n + y n
    rw [cd_cong (fun k hk => h k (by omega)), h n (by omega)]
theorem cd_prc {n c : Nat} (hc : c < 6 ^ n) : ∀ j, j ≤ n → cd (prc n c) j = c / 6 ^ (n - j)
  | 0, _ => (Nat.div_eq_of_lt (by rw [Nat.sub_zero]; exact hc)).symm
  | j + 1, h => by
    show 6 * cd (prc n c) j + prc n c j = _
    rw [cd_prc hc j (by omega)]
    have e : prc n c j = dgt c (n - (j + 1)) := by
      unfold prc
      rw [if_pos (by omega)]
      congr 1
      omega
    rw [e]
    unfold dgt
    rw [show n - j = (n - (j + 1)) + 1 by omega, Nat.pow_succ, ← Nat.div_div_eq_div_mul]
    omega
theorem okc_pm {n c : Nat} (hn : n ≤ 6) (h : okc n c = true) : Pm (prc n c) ∧ ∀ k, n ≤ k → prc n c k = k := by
  have h := (okd_iff n c n).mp h
  have fx : ∀ k, n ≤ k → prc n c k = k := fun k hk => if_neg (by omega)
  have ins : ∀ k, k < n → prc n c k = dgt c (n - 1 - k) := fun k hk => if_pos hk
  have lt : ∀ k, k < n → prc n c k < n := fun k hk => by rw [ins k hk]; exact (h _ (by omega)).1
  refine ⟨⟨fun k hk => ?_, fun a b ha hb e => ?_, fun k hk => fx k (by omega)⟩, fx⟩
  · by_cases q : k < n
    · have := lt k q; omega
    · rw [fx k (by omega)]; exact hk
  · by_cases qa : a < n
    · by_cases qb : b < n
      · rw [ins a qa, ins b qb] at e
        rcases Nat.lt_trichotomy a b with z | z | z
        · exact absurd e.symm ((h (n - 1 - a) (by omega)).2 (n - 1 - b) (by omega))
        · exact z
        · exact absurd e ((h (n - 1 - b) (by omega)).2 (n - 1 - a) (by omega))
      · have := lt a qa
        have := fx b (by omega)
        omega
    · by_cases qb : b < n
      · have := lt b qb
        have := fx a (by omega)
        omega
      · have := fx a (by omega)
        have := fx b (by omega)
        omega
theorem pm_okc {n : Nat} (hn : n ≤ 6) {x : Nat → Nat} (hx : Pm x) (hf : ∀ k, n ≤ k → x k = k) : okc n (cd x n) = true ∧ cd x n < 6 ^ n ∧ prc n (cd x n) = x := by
  have l6 : ∀ k, k < n → x k < 6 := fun k hk => hx.1 k (by omega)
  refine ⟨(okd_iff n _ n).mpr (fun i hi => ?_), cd_lt l6, ?_⟩
  · rw [cd_dgt l6 i hi]
    refine ⟨hx.in hn hf (by omega), fun q hq e => ?_⟩
    rw [cd_dgt l6 q (by omega)] at e
    have := hx.2.1 _ _ (by omega) (by omega) e
    omega
  · funext k
    unfold prc
    by_cases q : k < n
    · rw [if_pos q, cd_dgt l6 _ (by omega)]
      congr 1
      omega
    · rw [if_neg q, hf k (by omega)]
/-- counting -/
theorem ct_lt {P : Nat → Bool} {c m : Nat} (h : P c = true) (hc : c < m) : fb_ct P c < fb_ct P m := by
  have := fb_ct_mono P (show c + 1 ≤ m by omega)
  rw [fb_ct_succ, if_pos h] at this
  omega
theorem ct_inj {P : Nat → Bool} {a b : Nat} (ha : P a = true) (hb : P b = true) (e : fb_ct P a = fb_ct P b) : a = b := by
  rcases Nat.lt_trichotomy a b with z | z | z
  · have := ct_lt ha z; omega
  · exact z
  · have := ct_lt hb z; omega
def nth (P : Nat → Bool) : Nat → Nat → Nat
  | 0, _ => 0
  | m + 1, t => if P m = true ∧ fb_ct P m = t then m else nth P m t
theorem nth_t {P : Nat → Bool} : ∀ {m t : Nat}, t < fb_ct P m → nth P m t < m ∧ P (nth P m t) = true ∧ fb_ct P (nth P m t) = t
  | 0, t, h => absurd h (Nat.not_lt_zero _)
  | m + 1, t, h => by
    unfold nth
    by_cases q : P m = true ∧ fb_ct P m = t
    · rw [if_pos q]; exact ⟨by omega, q⟩
    · rw [if_neg q]
      have h2 : t < fb_ct P m := by
        rw [fb_ct_succ] at h
        by_cases z : P m = true
        · rw [if_pos z] at h
          have : ¬ fb_ct P m = t := fun w => q ⟨z, w⟩
          omega
        · rw [if_neg z] at h; exact h
      have := nth_t h2
      exact ⟨by omega, this.2⟩
/-- how many tables there are, the t-th, and a table's number -/
def TT (n : Nat) : Nat := fb_ct (okc n) (6 ^ n)
def prm (n t : Nat) : Nat → Nat := prc n (nth (okc n) (6 ^ n) t)
def num (n : Nat) (x : Nat → Nat) : Nat := fb_ct (okc n) (cd x n)
theorem prm_t {n t : Nat} (hn : n ≤ 6) (ht : t < TT n) : Pm (prm n t) ∧ (∀ k, n ≤ k → prm n t k = k) ∧ num n (prm n t) = t := by
  have h := nth_t ht
  have h2 := okc_pm hn h.2.1
  refine ⟨h2.1, h2.2, ?_⟩
  unfold num prm
  rw [cd_prc h.1 n (Nat.le_refl _), Nat.sub_self, Nat.pow_zero, Nat.div_one]
  exact h.2.2
theorem num_t {n : Nat} (hn : n ≤ 6) {x : Nat → Nat} (hx : Pm x) (hf : ∀ k, n ≤ k → x k = k) : num n x < TT n ∧ prm n (num n x) = x := by
  obtain ⟨h1, h2, h3⟩ := pm_okc hn hx hf
  have lt : num n x < TT n := ct_lt h1 h2
  refine ⟨lt, ?_⟩
  have h := nth_t lt
  have e := ct_inj h.2.1 h1 h.2.2
  unfold prm
  rw [e, h3]
theorem num_inj {n : Nat} (hn : n ≤ 6) {x y : Nat → Nat} (hx : Pm x) (hf : ∀ k, n ≤ k → x k = k) (hy : Pm y) (hg : ∀ k, n ≤ k → y k = k) (e : num n x = num n y) : x = y := by
  rw [← (num_t hn hx hf).2, ← (num_t hn hy hg).2, e]
/-- the place of a row among all rows -/
def lt1 (a b : Nat) : Nat := if b < a then 1 else 0
def rk (x : Nat → Nat) : Nat := 120 * x 0 + 24 * (x 1 - lt1 (x 1) (x 0)) + 6 * (x 2 - lt1 (x 2) (x 0) - lt1 (x 2) (x 1)) + 2 * (lt1 (x 3) (x 4) + lt1 (x 3) (x 5)) + lt1 (x 4) (x 5)
def pck : List Nat → List Nat → List Nat
  | [], l => l
  | d :: ds, l => l.getD d 0 :: pck ds (l.eraseIdx d)
def urk (r : Nat) : List Nat := pck [r / 120, r % 120 / 24, r % 24 / 6, r % 6 / 2, r % 2] [0, 1, 2, 3, 4, 5]
theorem rk_all : pl6.all (fun x => decide (rk x < 720) && (urk (rk x) == [x 0, x 1, x 2, x 3, x 4, x 5])) = true := by decide +kernel
theorem rk_t {x : Nat → Nat} (hx : Pm x) : rk x < 720 ∧ urk (rk x) = [x 0, x 1, x 2, x 3, x 4, x 5] := by
  have h := hx.all rk_all
  rw [Bool.and_eq_true, decide_eq_true_eq, beq_iff_eq] at h
  exact h
theorem rk_inj {x y : Nat → Nat} (hx : Pm x) (hy : Pm y) (e : rk x = rk y) : x = y := by
  have h1 := (rk_t hx).2
  rw [e, (rk_t hy).2] at h1
  injection h1 with e0 h1
  injection h1 with e1 h1
  injection h1 with e2 h1
  injection h1 with e3 h1
  injection h1 with e4 h1
  injection h1 with e5 h1
  rw [hx.pf, hy.pf, e0, e1, e2, e3, e4, e5]
theorem id_pm : Pm (fun k => k) := ⟨fun _ h => h, fun _ _ _ _ h => h, fun _ _ => rfl⟩
theorem TT_le {n : Nat} (hn : n ≤ 6) : TT n ≤ 720 ∧ 0 < TT n := by
  refine ⟨Nat.not_lt.mp (fun h => ?_), Nat.lt_of_le_of_lt (Nat.zero_le _) (num_t hn id_pm (fun _ _ => rfl)).1⟩
  have ne : ∀ i j, i < j → j < TT n → rk (prm n i) ≠ rk (prm n j) := fun i j hij hj e => by
    have h1 := prm_t hn (show i < TT n by omega)
    have h2 := prm_t hn hj
    have e2 := rk_inj h1.1 h2.1 e
    have := h1.2.2
    rw [e2, h2.2.2] at this
    omega
  obtain ⟨i, hi, ei⟩ := fb_onto (n := 720) (f := fun t => rk (prm n t)) (fun t ht => (rk_t (prm_t hn (show t < TT n by omega)).1).1) (fun i j a b => ne i j a (by omega)) (y := rk (prm n 720)) (rk_t (prm_t hn h).1).1
  exact ne i 720 hi h ei
