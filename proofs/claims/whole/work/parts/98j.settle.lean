/-- not behind, by miles and then by meetings -/
abbrev lxl (a b c d : Nat) : Prop := a < c ∨ (a = c ∧ b ≤ d)
def ej (N : NS) (b : Bool) (x : Nat → Nat) (j : Nat) : Prop := sok N x j ∧ (b = true → j < 36)
def cs (N : NS) (b : Bool) (x : Nat → Nat) (j : Nat) : Nat := if b = true then 1 else sco N x j
/-- ways of so many meetings and miles to where all is well -/
def WK (N : NS) (b : Bool) : Nat → (Nat → Nat) → Nat → Prop
  | 0, x, m => ow x (bnd (N_n N) (N_w N) x) = true ∧ m = 0
  | k + 1, x, m => ∃ j, j < 298 ∧ ej N b x j ∧ ∃ m2, WK N b k (sto N x j) m2 ∧ m = cs N b x j + m2
theorem mil_le {N : NS} (ok : N_ok N) {x : Nat → Nat} (hx : Tb (N_n N) x) {j : Nat} (h : ¬ who N x (mtA j) = 0) : sco N x j ≤ 2160 := by
  have hn := ok.1
  obtain ⟨w1, w2⟩ := who_t ok hx.1 hx.2 h
  have hra : N_ra N ≤ 9 := ok.2.2.2.2.2.2.2.2.2.2.2.1
  have hns : N_ns N ≤ 4 := ok.2.2.2.2.2.2.2.2.1
  unfold sco mil
  by_cases k0 : mtA j / 10000 = 0
  · rw [if_pos k0]
    rcases w2 with ⟨_, a, b, _⟩ | ⟨z, _⟩ | ⟨z, _⟩
    · have := fr_lt ok (show mtA j % 10000 / 100 < 6 by omega) (show mtA j % 10000 % 100 < 6 by omega)
      omega
    · omega
    · omega
  · rw [if_neg k0]
    by_cases k1 : mtA j / 10000 = 1
    · rw [if_pos k1]
      rcases w2 with ⟨z, _⟩ | ⟨_, a, _⟩ | ⟨z, _⟩
      · omega
      · have := toI_lt ok (show mtA j % 10000 / 1000 < 4 by omega) (who N x (mtA j)) hn
        omega
      · omega
    · rw [if_neg k1]
      have h1 := ffo_lt ok hx.1 (who N x (mtA j)) hn
      have h2 : N_ra N * ffo N x (who N x (mtA j)) (N_n N) ≤ 9 * 240 := Nat.mul_le_mul hra (by omega)
      omega
theorem cs_le {N : NS} (ok : N_ok N) {b : Bool} {x : Nat → Nat} (hx : Tb (N_n N) x) {j : Nat} (h : ej N b x j) : cs N b x j ≤ 2160 := by
  unfold cs
  split
  · omega
  · exact mil_le ok hx h.1.2.1
/-- the state of the settling -/
def VS (N : NS) (b : Bool) (q : Nat) (lm ly : Nat → Nat) : Prop := ∀ t, t < TT (N_n N) → ((lm t = 1000000000 ∨ (WK N b (ly t) (prm (N_n N) t) (lm t) ∧ lm t ≤ 2160 * fb_ct (fun t => !decide (lm t = 1000000000)) (TT (N_n N)))) ∧ ly t ≤ q ∧ lm t ≤ 1000000000)
def HK_ (N : NS) (b : Bool) (k : Nat) (lm ly : Nat → Nat) : Prop := ∀ t, t < TT (N_n N) → ∀ k2, k2 ≤ k → ∀ m, WK N b k2 (prm (N_n N) t) m → lxl (lm t) (ly t) m k2
def bet (lm ly : Nat → Nat) (t to c : Nat) : Bool := !decide (lm to = 1000000000) && !decide (to = t) && decide (lm to + c < lm t ∨ (lm to + c = lm t ∧ ly to + 1 < ly t))
theorem bet_iff {lm ly : Nat → Nat} {t to c : Nat} : bet lm ly t to c = true ↔ (¬ lm to = 1000000000 ∧ ¬ to = t) ∧ (lm to + c < lm t ∨ (lm to + c = lm t ∧ ly to + 1 < ly t)) := by
  unfold bet
  rw [Bool.and_eq_true, Bool.and_eq_true, Bool.not_eq_true', Bool.not_eq_true', decide_eq_false_iff_not, decide_eq_false_iff_not, decide_eq_true_eq]
def lm2 (lm ly : Nat → Nat) (t to c : Nat) : Nat → Nat := if bet lm ly t to c = true then ud lm t (lm to + c) else lm
def ly2 (lm ly : Nat → Nat) (t to c : Nat) : Nat → Nat := if bet lm ly t to c = true then ud ly t (ly to + 1) else ly
theorem lm_le {N : NS} (ok : N_ok N) {b : Bool} {q : Nat} {lm ly : Nat → Nat} (h : VS N b q lm ly) {t : Nat} (ht : t < TT (N_n N)) : lm t = 1000000000 ∨ lm t ≤ 1555200 := by
  rcases (h t ht).1 with z | ⟨_, z⟩
  · exact Or.inl z
  · have h1 := fb_ct_le (fun t => !decide (lm t = 1000000000)) (TT (N_n N))
    have h2 := (TT_le ok.1).1
    exact Or.inr (by omega)
/-- values only fall -/
theorem lm2_le {lm ly : Nat → Nat} {t to c : Nat} (u : Nat) : lxl (lm2 lm ly t to c u) (ly2 lm ly t to c u) (lm u) (ly u) := by
  unfold lm2 ly2
  by_cases q : bet lm ly t to c = true
  · rw [if_pos q, if_pos q]
    have := (bet_iff.mp q).2
    unfold ud
    by_cases e : u = t
    · rw [if_pos e, if_pos e, e]; omega
    · rw [if_neg e, if_neg e]; omega
  · rw [if_neg q, if_neg q]; omega
theorem lm2_t {lm ly : Nat → Nat} {t to c : Nat} (hto : ¬ lm to = 1000000000) (ne : ¬ to = t) : lxl (lm2 lm ly t to c t) (ly2 lm ly t to c t) (lm to + c) (ly to + 1) := by
  unfold lm2 ly2
  by_cases q : bet lm ly t to c = true
  · rw [if_pos q, if_pos q]
    unfold ud
    rw [if_pos rfl, if_pos rfl]
    omega
  · rw [if_neg q, if_neg q]
    have : ¬ (lm to + c < lm t ∨ (lm to + c = lm t ∧ ly to + 1 < ly t)) := fun z => q (bet_iff.mpr ⟨⟨hto, ne⟩, z⟩)
    omega
theorem VS.step {N : NS} (ok : N_ok N) {b : Bool} {q : Nat} {lm ly : Nat → Nat} (h : VS N b q lm ly) {t j : Nat} (ht : t < TT (N_n N)) (hj : j < 298) (he : ej N b (prm (N_n N) t) j) {to : Nat} (eto : to = num (N_n N) (sto N (prm (N_n N) t) j)) : VS N b (q + 1) (lm2 lm ly t to (cs N b (prm (N_n N) t) j)) (ly2 lm ly t to (cs N b (prm (N_n N) t) j)) := by
  have hn := ok.1
  have hx := Tb.pr_ hn ht
  have hs := sto_Tb ok hx he.1.2.1
  have hto : to < TT (N_n N) := by rw [eto]; exact (hs.nu hn).1
  have pto : prm (N_n N) to = sto N (prm (N_n N) t) j := by rw [eto]; exact (hs.nu hn).2
  have hc := cs_le ok hx he
  unfold lm2 ly2
  by_cases z : bet lm ly t to (cs N b (prm (N_n N) t) j) = true
  · rw [if_pos z, if_pos z]
    obtain ⟨⟨z1, z2⟩, z3⟩ := bet_iff.mp z
    obtain ⟨a1, a2, a3⟩ := h to hto
    have aw := a1.elim (fun y => absurd y z1) id
    have hE := (h t ht).2.2
    have hct := fb_ct_le (fun t => !decide (lm t = 1000000000)) (TT (N_n N))
    have h72 := (TT_le hn).1
    have up := fb_ct_upd (fun u => !decide (lm u = 1000000000)) true (i := t) (n := TT (N_n N)) ht
    have ecn : fb_ct (fun u => !decide (ud lm t (lm to + cs N b (prm (N_n N) t) j) u = 1000000000)) (TT (N_n N)) = fb_ct (fun u => if u = t then true else !decide (lm u = 1000000000)) (TT (N_n N)) := by
      refine fb_ct_cong (fun u hu => ?_)
      unfold ud
      by_cases e : u = t
      · rw [if_pos e, if_pos e]
        have ne : ¬ lm to + cs N b (prm (N_n N) t) j = 1000000000 := by omega
        rw [decide_eq_false ne]; rfl
      · rw [if_neg e, if_neg e]
    intro u hu
    rw [ecn]
    unfold ud
    by_cases e : u = t
    · rw [if_pos e, if_pos e]
      refine ⟨Or.inr ⟨?_, ?_⟩, by omega, by omega⟩
      · rw [e]
        exact ⟨j, hj, he, lm to, by rw [← pto]; exact aw.1, Nat.add_comm _ _⟩
      · by_cases y : lm t = 1000000000
        · rw [decide_eq_true y] at up
          simp only [Bool.not_true, Bool.false_eq_true, if_false, if_true] at up
          omega
        · rcases (h t ht).1 with x | ⟨_, x⟩
          · exact absurd x y
          · rw [decide_eq_false y] at up
            simp only [Bool.not_false, if_true] at up
            omega
    · rw [if_neg e, if_neg e]
      obtain ⟨c1, c2, c3⟩ := h u hu
      refine ⟨c1.imp id (fun y => ⟨y.1, ?_⟩), by omega, c3⟩
      have := y.2
      simp only [if_true] at up
      split at up <;> omega
  · rw [if_neg z, if_neg z]
    intro u hu
    obtain ⟨c1, c2, c3⟩ := h u hu
    exact ⟨c1, by omega, c3⟩
theorem HK_.step {N : NS} {b : Bool} {k : Nat} {lm ly : Nat → Nat} (h : HK_ N b k lm ly) (t to c : Nat) : HK_ N b k (lm2 lm ly t to c) (ly2 lm ly t to c) := by
  intro u hu k2 hk m hw
  have h1 := h u hu k2 hk m hw
  have h2 := lm2_le (lm := lm) (ly := ly) (t := t) (to := to) (c := c) u
  omega
/-- edges gone over in a round -/
def HB (N : NS) (b : Bool) (k s : Nat) (lm ly : Nat → Nat) : Prop := ∀ t, t < TT (N_n N) → ∀ j, j < 298 → 298 * t + j < s → ej N b (prm (N_n N) t) j → ∀ k2, k2 ≤ k → ∀ m, WK N b k2 (sto N (prm (N_n N) t) j) m → lxl (lm t) (ly t) (cs N b (prm (N_n N) t) j + m) (k2 + 1)
theorem HB.step {N : NS} {b : Bool} {k s : Nat} {lm ly : Nat → Nat} (h : HB N b k s lm ly) (t to c : Nat) : HB N b k s (lm2 lm ly t to c) (ly2 lm ly t to c) := by
  intro u hu j hj hs he k2 hk m hw
  have h1 := h u hu j hj hs he k2 hk m hw
  have h2 := lm2_le (lm := lm) (ly := ly) (t := t) (to := to) (c := c) u
  omega
theorem HB.next {N : NS} {b : Bool} {k : Nat} {lm ly : Nat → Nat} (h : HB N b k (298 * TT (N_n N)) lm ly) (h0 : HK_ N b 0 lm ly) : HK_ N b (k + 1) lm ly := by
  intro t ht k2 hk m hw
  match k2, hk, hw with
  | 0, _, hw => exact h0 t ht 0 (Nat.le_refl _) m hw
  | k2 + 1, hk, ⟨j, hj, he, m2, hw, e⟩ =>
    rw [e]
    exact h t ht j hj (by omega) he k2 (by omega) m2 hw
theorem HB.add {N : NS} (ok : N_ok N) {b : Bool} {q k t j : Nat} {lm ly : Nat → Nat} (hv : VS N b q lm ly) (hk : HK_ N b k lm ly) (h : HB N b k (298 * t + j) lm ly) (ht : t < TT (N_n N)) (hj : j < 298) (he : ej N b (prm (N_n N) t) j) {to : Nat} (eto : to = num (N_n N) (sto N (prm (N_n N) t) j)) (h9 : ∀ k2 m, k2 ≤ k → WK N b k2 (prm (N_n N) to) m → m < 1000000000) : HB N b k (298 * t + j + 1) (lm2 lm ly t to (cs N b (prm (N_n N) t) j)) (ly2 lm ly t to (cs N b (prm (N_n N) t) j)) := by
  have hn := ok.1
  have hx := Tb.pr_ hn ht
  have hs := sto_Tb ok hx he.1.2.1
  have hto : to < TT (N_n N) := by rw [eto]; exact (hs.nu hn).1
  have pto : prm (N_n N) to = sto N (prm (N_n N) t) j := by rw [eto]; exact (hs.nu hn).2
  intro u hu i hi hlt hei k2 hk2 m hw
  by_cases e : 298 * u + i = 298 * t + j
  · have e1 : u = t := by omega
    have e2 : i = j := by omega
    subst e1
    subst e2
    rw [← pto] at hw
    have h1 := hk to hto k2 hk2 m hw
    have h2 := h9 k2 m hk2 hw
    by_cases et : to = u
    · rw [et] at h1
      have h3 := lm2_le (lm := lm) (ly := ly) (t := u) (to := to) (c := cs N b (prm (N_n N) u) i) u
      omega
    · have h3 := lm2_t (lm := lm) (ly := ly) (t := u) (to := to) (c := cs N b (prm (N_n N) u) i) (by omega) et
      omega
  · exact h.step t to _ u hu i hi (by omega) hei k2 hk2 m hw
theorem HB.skip {N : NS} {b : Bool} {k s : Nat} {lm ly : Nat → Nat} (h : HB N b k s lm ly) (hno : ¬ ej N b (prm (N_n N) (s / 298)) (s % 298)) : HB N b k (s + 1) lm ly := by
  intro u hu i hi hlt hei k2 hk2 m hw
  by_cases e : 298 * u + i = s
  · have e1 : s / 298 = u := by omega
    have e2 : s % 298 = i := by omega
    rw [e1, e2] at hno
    exact absurd hei hno
  · exact h u hu i hi (by omega) hei k2 hk2 m hw
theorem WK_le {N : NS} (ok : N_ok N) {b : Bool} : ∀ k x m, Tb (N_n N) x → WK N b k x m → m ≤ 2160 * k
  | 0, x, m, _, h => by rw [h.2]; omega
  | k + 1, x, m, hx, ⟨j, hj, he, m2, hw, e⟩ => by
    have h1 := WK_le ok k _ m2 (sto_Tb ok hx he.1.2.1) hw
    have h2 := cs_le ok hx he
    omega
/-- no way need be longer than there are tables -/
theorem WK_seq {N : NS} (ok : N_ok N) {b : Bool} : ∀ k x m, Tb (N_n N) x → WK N b k x m → ∃ (y : Nat → Nat → Nat) (s : Nat → Nat), s 0 = m ∧ (∀ i, i ≤ k → Tb (N_n N) (y i) ∧ WK N b (k - i) (y i) (s i)) ∧ (∀ i j, i ≤ j → j ≤ k → s j ≤ s i) ∧ (∀ i, i ≤ k → ∀ k2 m2, WK N b k2 (y i) m2 → m2 ≤ s i → ∃ m3, WK N b (i + k2) x m3 ∧ m3 ≤ m) := by
  intro k
  induction k with
  | zero =>
    intro x m hx h
    refine ⟨fun _ => x, fun _ => m, rfl, fun i hi => ⟨hx, by rw [show 0 - i = 0 by omega]; exact h⟩, fun _ _ _ _ => Nat.le_refl _, fun i hi k2 m2 hw hm => ⟨m2, by rw [show i + k2 = k2 by omega]; exact hw, hm⟩⟩
  | succ k ih =>
    intro x m hx hwk
    obtain ⟨j, hj, he, m2, hw, e⟩ := id hwk
    obtain ⟨y, s, h0, h1, h2, h3⟩ := ih _ m2 (sto_Tb ok hx he.1.2.1) hw
    refine ⟨fun i => match i with | 0 => x | i + 1 => y i, fun i => match i with | 0 => m | i + 1 => s i, rfl, ?_, ?_, ?_⟩
    · intro i hi
      match i, hi with
      | 0, _ => exact ⟨hx, hwk⟩
      | i + 1, hi =>
        rw [show k + 1 - (i + 1) = k - i by omega]
        exact h1 i (by omega)
    · intro i l hil hl
      match i, l, hil, hl with
      | 0, 0, _, _ => exact Nat.le_refl _
      | 0, l + 1, _, hl =>
        have := h2 0 l (Nat.zero_le _) (by omega)
        show s l ≤ m
        omega
      | i + 1, l + 1, hil, hl => exact h2 i l (by omega) (by omega)
    · intro i hi k2 m3 hw2 hm
      match i, hi, hw2, hm with
      | 0, _, hw2, hm => exact ⟨m3, by rw [Nat.zero_add]; exact hw2, hm⟩
      | i + 1, hi, hw2, hm =>
        obtain ⟨m4, w4, l4⟩ := h3 i (by omega) k2 m3 hw2 hm
        refine ⟨cs N b x j + m4, ?_, by omega⟩
        rw [show i + 1 + k2 = (i + k2) + 1 by omega]
        exact ⟨j, hj, he, m4, w4, rfl⟩
theorem WK_short {N : NS} (ok : N_ok N) {b : Bool} {k m : Nat} {x : Nat → Nat} (hx : Tb (N_n N) x) (h : WK N b k x m) (hk : TT (N_n N) ≤ k) : ∃ k2 m2, k2 < k ∧ m2 ≤ m ∧ WK N b k2 x m2 := by
  have hn := ok.1
  obtain ⟨y, s, h0, h1, h2, h3⟩ := WK_seq ok k x m hx h
  have key : ∃ i j, i < j ∧ j ≤ TT (N_n N) ∧ num (N_n N) (y i) = num (N_n N) (y j) := by
    apply Classical.byContradiction
    intro hno
    obtain ⟨i, hi, ei⟩ := fb_onto (n := TT (N_n N)) (f := fun i => num (N_n N) (y i)) (fun i hi => ((h1 i (by omega)).1.nu hn).1) (fun i j a c e => hno ⟨i, j, a, by omega, e⟩) ((h1 (TT (N_n N)) hk).1.nu hn).1
    exact hno ⟨i, TT (N_n N), hi, Nat.le_refl _, ei⟩
  obtain ⟨i, j, hij, hj, e⟩ := key
  have ey := (h1 i (by omega)).1.ij hn (h1 j (by omega)).1 e
  have wj := (h1 j (by omega)).2
  rw [← ey] at wj
  obtain ⟨m3, w3, l3⟩ := h3 i (by omega) _ _ wj (h2 i j (by omega) (by omega))
  exact ⟨i + (k - j), m3, by omega, l3, w3⟩
theorem WK_min {N : NS} (ok : N_ok N) {b : Bool} : ∀ k m x, Tb (N_n N) x → WK N b k x m → ∃ k2 m2, k2 < TT (N_n N) ∧ k2 ≤ k ∧ m2 ≤ m ∧ WK N b k2 x m2 := by
  intro k
  induction k using Nat.strongRecOn with
  | ind k ih =>
    intro m x hx h
    by_cases q : k < TT (N_n N)
    · exact ⟨k, m, q, Nat.le_refl _, Nat.le_refl _, h⟩
    · obtain ⟨k2, m2, a, c, d⟩ := WK_short ok hx h (by omega)
      obtain ⟨k3, m3, e, f, g, i⟩ := ih k2 a m2 x hx d
      exact ⟨k3, m3, e, by omega, by omega, i⟩
/-- nothing gets better any more -/
def FX (N : NS) (b : Bool) (s : Nat) (lm ly : Nat → Nat) : Prop := ∀ t, t < TT (N_n N) → ∀ j, j < 298 → 298 * t + j < s → ej N b (prm (N_n N) t) j → bet lm ly t (num (N_n N) (sto N (prm (N_n N) t) j)) (cs N b (prm (N_n N) t) j) = false
/-- what the settling comes to -/
def SE (N : NS) (b : Bool) (lm ly : Nat → Nat) : Prop := ∀ t, t < TT (N_n N) → (lm t = 1000000000 ∨ (WK N b (ly t) (prm (N_n N) t) (lm t) ∧ lm t ≤ 1555200)) ∧ ∀ k m, WK N b k (prm (N_n N) t) m → lxl (lm t) (ly t) m k
theorem FX.all {N : NS} (ok : N_ok N) {b : Bool} {q : Nat} {lm ly : Nat → Nat} (hv : VS N b q lm ly) (h0 : HK_ N b 0 lm ly) (h : FX N b (298 * TT (N_n N)) lm ly) : ∀ k, k ≤ 1000 → HK_ N b k lm ly := by
  have hn := ok.1
  intro k
  induction k with
  | zero => exact fun _ => h0
  | succ k ih =>
    intro hk t ht k2 hk2 m hw
    match k2, hk2, hw with
    | 0, _, hw => exact h0 t ht 0 (Nat.le_refl _) m hw
    | k2 + 1, hk2, ⟨j, hj, he, m2, hw, e⟩ =>
      have hx := Tb.pr_ hn ht
      have hs := sto_Tb ok hx he.1.2.1
      obtain ⟨n1, n2⟩ := hs.nu hn
      have hw2 : WK N b k2 (prm (N_n N) (num (N_n N) (sto N (prm (N_n N) t) j))) m2 := by rw [n2]; exact hw
      have h1 := ih (by omega) _ n1 k2 (by omega) m2 hw2
      have h2 := WK_le ok k2 _ m2 hs hw
      have hb := h t ht j hj (by omega) he
      by_cases et : num (N_n N) (sto N (prm (N_n N) t) j) = t
      · rw [et] at h1
        omega
      · have nb : ¬ (lm (num (N_n N) (sto N (prm (N_n N) t) j)) + cs N b (prm (N_n N) t) j < lm t ∨ (lm (num (N_n N) (sto N (prm (N_n N) t) j)) + cs N b (prm (N_n N) t) j = lm t ∧ ly (num (N_n N) (sto N (prm (N_n N) t) j)) + 1 < ly t)) := fun z => by
          have := bet_iff.mpr ⟨⟨show ¬ lm (num (N_n N) (sto N (prm (N_n N) t) j)) = 1000000000 by omega, et⟩, z⟩
          rw [hb] at this
          cases this
        omega
theorem VS.se {N : NS} (ok : N_ok N) {b : Bool} {q : Nat} {lm ly : Nat → Nat} (hv : VS N b q lm ly) (h : ∀ k, k ≤ 1000 → HK_ N b k lm ly) : SE N b lm ly := by
  intro t ht
  have h72 := (TT_le ok.1).1
  refine ⟨(hv t ht).1.imp id (fun z => ⟨z.1, ?_⟩), fun k m hw => ?_⟩
  · have := fb_ct_le (fun t => !decide (lm t = 1000000000)) (TT (N_n N))
    omega
  · obtain ⟨k2, m2, a1, a2, a3, a4⟩ := WK_min ok k m _ (Tb.pr_ ok.1 ht) hw
    have := h k2 (by omega) t ht k2 (Nat.le_refl _) m2 a4
    omega
/-- a round in which something gets better isn't the last possible -/
theorem bet_round {N : NS} (ok : N_ok N) {b : Bool} {q p : Nat} {lm ly : Nat → Nat} (hv : VS N b q lm ly) (hk : HK_ N b p lm ly) {t j : Nat} (ht : t < TT (N_n N)) (hj : j < 298) (he : ej N b (prm (N_n N) t) j) (hb : bet lm ly t (num (N_n N) (sto N (prm (N_n N) t) j)) (cs N b (prm (N_n N) t) j) = true) : p < TT (N_n N) := by
  have hn := ok.1
  have hx := Tb.pr_ hn ht
  have hs := sto_Tb ok hx he.1.2.1
  obtain ⟨n1, n2⟩ := hs.nu hn
  apply Nat.not_le.mp
  intro hp
  obtain ⟨⟨z1, z2⟩, z3⟩ := bet_iff.mp hb
  have aw := (hv _ n1).1.elim (fun y => absurd y z1) id
  have w : WK N b (ly (num (N_n N) (sto N (prm (N_n N) t) j)) + 1) (prm (N_n N) t) (cs N b (prm (N_n N) t) j + lm (num (N_n N) (sto N (prm (N_n N) t) j))) := ⟨j, hj, he, _, by have := aw.1; rwa [n2] at this, rfl⟩
  obtain ⟨k2, m2, a1, a2, a3, a4⟩ := WK_min ok _ _ _ hx w
  have := hk t ht k2 (by omega) m2 a4
  omega
/-- pairs alone -/
theorem mtA_pair {j : Nat} (h : j < 36) : mtA j = 100 * (j / 6) + j % 6 := if_pos h
theorem PW_WK {N : NS} (ok : N_ok N) : ∀ k x, Tb (N_n N) x → (PW (N_n N) (N_w N) k x ↔ WK N true k x k)
  | 0, x, _ => ⟨fun h => ⟨h, rfl⟩, fun h => h.1⟩
  | k + 1, x, hx => by
    have hn := ok.1
    have whoE : ∀ i j, i < j → j < N_n N → who N x (mtA (6 * i + j)) = 2 ^ i ||| 2 ^ j ∧ sto N x (6 * i + j) = sw x i j := fun i j hij hj => by
      have e : mtA (6 * i + j) = 100 * i + j := by rw [mtA_pair (by omega)]; omega
      have w : who N x (100 * i + j) = 2 ^ i ||| 2 ^ j := by
        unfold who whoP
        rw [if_pos (by omega), if_pos (by omega), show (100 * i + j) % 10000 / 100 = i by omega, show (100 * i + j) % 10000 % 100 = j by omega]
      refine ⟨by rw [e]; exact w, ?_⟩
      unfold sto aft
      rw [e, if_pos (by omega), show (100 * i + j) / 100 = i by omega, show (100 * i + j) % 100 = j by omega]
    constructor
    · intro ⟨i, j, hij, hj, wi, wj, h⟩
      obtain ⟨e1, e2⟩ := whoE i j hij hj
      refine ⟨6 * i + j, by omega, ⟨⟨fun z => by omega, ?_, ?_⟩, fun _ => by omega⟩, k, ?_, by unfold cs; rw [if_pos rfl]; omega⟩
      · rw [e1]
        intro z
        have := (b_orr (2 ^ i) (2 ^ j) i).mpr (Or.inl ((b_pow i i).mpr rfl))
        rw [z] at this
        exact b_zero i this
      · rw [e1]
        refine or_and_0.mpr ⟨?_, ?_⟩
        · refine Classical.byContradiction (fun z => ?_)
          obtain ⟨q, hq, hb⟩ := s_ne (and_63 (a := 2 ^ i) (b := N_w N) (p6_lt (by omega))) z
          rw [b_and, b_pow] at hb
          rw [hb.1] at wi
          exact wi hb.2
        · refine Classical.byContradiction (fun z => ?_)
          obtain ⟨q, hq, hb⟩ := s_ne (and_63 (a := 2 ^ j) (b := N_w N) (p6_lt (by omega))) z
          rw [b_and, b_pow] at hb
          rw [hb.1] at wj
          exact wj hb.2
      · rw [e2]
        exact (PW_WK ok k _ (hx.sw hn hij hj)).mp h
    · intro ⟨j, hj, he, m2, hw, e⟩
      have h36 := he.2 rfl
      have hmv : j / 6 < j % 6 := Classical.byContradiction (fun z => he.1.1 ⟨h36, z⟩)
      have wn := he.1.2.1
      have wE := whoE (j / 6) (j % 6) hmv
      have ej6 : 6 * (j / 6) + j % 6 = j := by omega
      rw [ej6] at wE
      have hlt : j % 6 < N_n N := by
        obtain ⟨_, w2⟩ := who_t ok hx.1 hx.2 wn
        have em := mtA_pair h36
        rcases w2 with ⟨_, a, c, _⟩ | ⟨z, _⟩ | ⟨z, _⟩
        · rw [em] at c; omega
        · rw [em] at z; omega
        · rw [em] at z; omega
      obtain ⟨e1, e2⟩ := wE hlt
      have hand := he.1.2.2
      rw [e1, or_and_0] at hand
      have em2 : m2 = k := by unfold cs at e; rw [if_pos rfl] at e; omega
      refine ⟨j / 6, j % 6, hmv, hlt, and_0 hand.1 ((b_pow _ _).mpr rfl), and_0 hand.2 ((b_pow _ _).mpr rfl), ?_⟩
      rw [em2, e2] at hw
      exact (PW_WK ok k _ (hx.sw hn hmv hlt)).mpr hw
theorem WK_pair {N : NS} : ∀ k x m, WK N true k x m → m = k
  | 0, _, _, h => h.2
  | k + 1, x, m, ⟨j, _, _, m2, hw, e⟩ => by
    have := WK_pair k _ m2 hw
    unfold cs at e
    rw [if_pos rfl] at e
    omega
