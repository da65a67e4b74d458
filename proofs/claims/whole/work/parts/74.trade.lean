/-- of the first j coats the most liked that one of a set has -/
def bc (N : NS) (s p : Nat) : Nat → Option Nat
  | 0 => none
  | j + 1 => if s / 2 ^ iv (N_t N) j % 2 = 1 then (match bc N s p j with | none => some j | some b => if N_lk N (6 * p + b) < N_lk N (6 * p + j) then some j else some b) else bc N s p j
def mst (N : NS) (p : Nat) (o : Option Nat) : Int32 := match o with | none => -1 | some b => nI (N_lk N (6 * p + b))
def whb (N : NS) (p : Nat) (o : Option Nat) : Nat := match o with | none => p | some b => iv (N_t N) b
/-- the best of the coats from lo to hi -/
def IsB (N : NS) (s p lo hi : Nat) (o : Option Nat) : Prop := (o = none → ∀ c, lo ≤ c → c < hi → ¬ s / 2 ^ iv (N_t N) c % 2 = 1) ∧ ∀ b, o = some b → lo ≤ b ∧ b < hi ∧ s / 2 ^ iv (N_t N) b % 2 = 1 ∧ ∀ c, lo ≤ c → c < hi → s / 2 ^ iv (N_t N) c % 2 = 1 → N_lk N (6 * p + c) < N_lk N (6 * p + b) ∨ (N_lk N (6 * p + c) = N_lk N (6 * p + b) ∧ b ≤ c)
theorem bc_n {N : NS} {s p j : Nat} (h : ¬ s / 2 ^ iv (N_t N) j % 2 = 1) : bc N s p (j + 1) = bc N s p j := if_neg h
theorem bc_s {N : NS} {s p j : Nat} (h : s / 2 ^ iv (N_t N) j % 2 = 1) (h2 : ∀ b, bc N s p j = some b → N_lk N (6 * p + b) < N_lk N (6 * p + j)) : bc N s p (j + 1) = some j := by
  unfold bc
  rw [if_pos h]
  cases e : bc N s p j with
  | none => rfl
  | some b => exact if_pos (h2 b e)
theorem bc_k {N : NS} {s p j : Nat} (h : s / 2 ^ iv (N_t N) j % 2 = 1) {b : Nat} (e : bc N s p j = some b) (h2 : ¬ N_lk N (6 * p + b) < N_lk N (6 * p + j)) : bc N s p (j + 1) = some b := by
  unfold bc
  rw [if_pos h, e]
  exact if_neg h2
theorem bc_is (N : NS) (s p : Nat) : ∀ j, IsB N s p 0 j (bc N s p j)
  | 0 => ⟨fun _ c _ h => absurd h (Nat.not_lt_zero _), fun b h => by cases h⟩
  | j + 1 => by
    have ih := bc_is N s p j
    by_cases q : s / 2 ^ iv (N_t N) j % 2 = 1
    · cases e : bc N s p j with
      | none =>
        rw [bc_s q (fun b hb => by rw [e] at hb; cases hb)]
        refine ⟨fun z => (by cases z), fun b hb => ?_⟩
        cases hb
        refine ⟨by omega, by omega, q, fun c _ hc h1 => ?_⟩
        by_cases z : c = j
        · subst z; exact Or.inr ⟨rfl, Nat.le_refl _⟩
        · exact absurd h1 (ih.1 e c (by omega) (by omega))
      | some b =>
        obtain ⟨b0, b1, b2, b3⟩ := ih.2 b e
        by_cases r : N_lk N (6 * p + b) < N_lk N (6 * p + j)
        · rw [bc_s q (fun b' hb => by rw [e] at hb; cases hb; exact r)]
          refine ⟨fun z => (by cases z), fun b' hb => ?_⟩
          cases hb
          refine ⟨by omega, by omega, q, fun c _ hc h1 => ?_⟩
          by_cases z : c = j
          · subst z; exact Or.inr ⟨rfl, Nat.le_refl _⟩
          · have := b3 c (by omega) (by omega) h1
            exact Or.inl (by omega)
        · rw [bc_k q e r]
          refine ⟨fun z => (by cases z), fun b' hb => ?_⟩
          cases hb
          refine ⟨by omega, by omega, b2, fun c _ hc h1 => ?_⟩
          by_cases z : c = j
          · subst z; omega
          · exact b3 c (by omega) (by omega) h1
    · rw [bc_n q]
      refine ⟨fun z c h1 h2 h3 => ?_, fun b hb => ?_⟩
      · by_cases y : c = j
        · subst y; exact q h3
        · exact ih.1 z c h1 (by omega) h3
      · obtain ⟨b0, b1, b2, b3⟩ := ih.2 b hb
        refine ⟨b0, by omega, b2, fun c h1 h2 h3 => ?_⟩
        by_cases y : c = j
        · subst y; exact absurd h3 q
        · exact b3 c h1 (by omega) h3
theorem IsB.eq {N : NS} {s p lo hi : Nat} {o o2 : Option Nat} (h : IsB N s p lo hi o) (h2 : IsB N s p lo hi o2) : o = o2 := by
  cases e : o with
  | none =>
    cases e2 : o2 with
    | none => rfl
    | some b =>
      obtain ⟨b0, b1, b2, b3⟩ := h2.2 b e2
      exact absurd b2 (h.1 e b b0 b1)
  | some a =>
    obtain ⟨a0, a1, a2, a3⟩ := h.2 a e
    cases e2 : o2 with
    | none => exact absurd a2 (h2.1 e2 a a0 a1)
    | some b =>
      obtain ⟨b0, b1, b2, b3⟩ := h2.2 b e2
      have := a3 b b0 b1 b2
      have := b3 a a0 a1 a2
      rw [show a = b by omega]
/-- whom each of a set points at -/
def pts (N : NS) (s p : Nat) : Nat := if s / 2 ^ p % 2 = 1 then whb N p (bc N s p (N_n N)) else p
theorem pts_in {N : NS} (ok : N_ok N) {s p : Nat} (hs : s < 2 ^ N_n N) (h : s / 2 ^ p % 2 = 1) : s / 2 ^ pts N s p % 2 = 1 ∧ pts N s p < N_n N := by
  have hp : p < N_n N := Nat.not_le.mp (fun z => b_out hs z h)
  have hn6 := ok.1
  have hb := bc_is N s p (N_n N)
  unfold pts
  rw [if_pos h]
  cases e : bc N s p (N_n N) with
  | none =>
    have hi := ok.pm.in hn6 ok.2.2.1 hp
    have := hb.1 e (N_t N p) (by omega) hi
    rw [(iv_t ok.pm (show p < 6 by omega)).2.2] at this
    exact absurd h this
  | some b =>
    obtain ⟨b0, b1, b2, b3⟩ := hb.2 b e
    exact ⟨b2, iv_in ok.pm hn6 ok.2.2.1 b1⟩
theorem pts_out {N : NS} {s p : Nat} (h : ¬ s / 2 ^ p % 2 = 1) : pts N s p = p := if_neg h
theorem pts_8 {N : NS} (ok : N_ok N) {s : Nat} (hs : s < 2 ^ N_n N) : ∀ k, k < 6 → pts N s k < 6 := fun k hk => by
  by_cases q : s / 2 ^ k % 2 = 1
  · have := (pts_in ok hs q).2
    have := ok.1
    omega
  · rw [pts_out q]; exact hk
/-- whether one comes back to p -/
def cyk (f : Nat → Nat) (p : Nat) : Nat → Nat → Bool
  | 0, _ => false
  | k + 1, q => decide (f q = p) || cyk f p k (f q)
def itr (f : Nat → Nat) : Nat → Nat → Nat
  | 0, q => q
  | k + 1, q => itr f k (f q)
theorem itr_add (f : Nat → Nat) (a : Nat) : ∀ b q, itr f a (itr f b q) = itr f (b + a) q
  | 0, q => by rw [Nat.zero_add]; rfl
  | b + 1, q => by rw [show b + 1 + a = (b + a) + 1 by omega]; exact itr_add f a b (f q)
theorem cyk_iff (f : Nat → Nat) (p : Nat) : ∀ k q, cyk f p k q = true ↔ ∃ i, 1 ≤ i ∧ i ≤ k ∧ itr f i q = p
  | 0, q => ⟨fun h => (by cases h), fun ⟨i, h1, h2, _⟩ => absurd h1 (by omega)⟩
  | k + 1, q => by
    unfold cyk
    rw [Bool.or_eq_true, decide_eq_true_eq, cyk_iff f p k]
    constructor
    · intro h
      rcases h with h | ⟨i, h1, h2, h3⟩
      · exact ⟨1, by omega, by omega, h⟩
      · exact ⟨i + 1, by omega, by omega, h3⟩
    · intro ⟨i, h1, h2, h3⟩
      match i, h1, h2, h3 with
      | 1, _, _, h3 => exact Or.inl h3
      | i + 2, _, h2, h3 => exact Or.inr ⟨i + 1, by omega, by omega, h3⟩
theorem itr_lt {f : Nat → Nat} {n : Nat} (hf : ∀ k, k < n → f k < n) : ∀ i q, q < n → itr f i q < n
  | 0, _, h => h
  | i + 1, q, h => itr_lt hf i (f q) (hf q h)
theorem per {f : Nat → Nat} {n : Nat} (hf : ∀ k, k < n → f k < n) {p : Nat} (hp : p < n) : ∀ k, 1 ≤ k → itr f k p = p → ∃ i, 1 ≤ i ∧ i ≤ n ∧ itr f i p = p := by
  intro k
  induction k using Nat.strongRecOn with
  | ind k ih =>
    intro h1 h2
    by_cases q : k ≤ n
    · exact ⟨k, h1, q, h2⟩
    · apply Classical.byContradiction
      intro hno
      have no : ∀ i, 1 ≤ i → i < k → itr f i p ≠ p := fun i a b c => hno (ih i b a c)
      have inj : ∀ i j, i < j → j < k → itr f i p ≠ itr f j p := fun i j hij hj e => by
        have e1 := itr_add f (k - j) j p
        rw [show j + (k - j) = k by omega, h2, ← e, itr_add] at e1
        exact no _ (by omega) (by omega) e1
      obtain ⟨i, hi, ei⟩ := fb_onto (f := fun i => itr f i p) (fun i _ => itr_lt hf i p hp) (fun i j a b => inj i j a (by omega)) (itr_lt hf n p hp)
      exact inj i n hi (by omega) ei
theorem cyk_n {f : Nat → Nat} {n : Nat} (hf : ∀ k, k < n → f k < n) {p : Nat} (hp : p < n) (hn : n ≤ 6) : cyk f p 6 p = cyk f p (n + 1) p := by
  rw [Bool.eq_iff_iff, cyk_iff, cyk_iff]
  constructor
  · intro ⟨i, h1, h2, h3⟩
    obtain ⟨j, a, b, c⟩ := per hf hp i h1 h3
    exact ⟨j, a, by omega, c⟩
  · intro ⟨i, h1, h2, h3⟩
    obtain ⟨j, a, b, c⟩ := per hf hp i h1 h3
    exact ⟨j, a, by omega, c⟩
/-- those of a set who come round -/
def gns (f : Nat → Nat) (s : Nat) : Nat → Nat
  | 0 => 0
  | p + 1 => if s / 2 ^ p % 2 = 1 ∧ cyk f p 6 p = true then gns f s p ||| 2 ^ p else gns f s p
theorem gns_lt (f : Nat → Nat) (s : Nat) : ∀ p, p ≤ 6 → gns f s p < 64
  | 0, _ => (show 0 < 64 by decide)
  | p + 1, h => by
    unfold gns
    split
    · exact b_or (k := 6) (gns_lt f s p (by omega)) (p6_lt (by omega))
    · exact gns_lt f s p (by omega)
theorem gns_bit (f : Nat → Nat) (s q : Nat) : ∀ p, gns f s p / 2 ^ q % 2 = 1 ↔ q < p ∧ s / 2 ^ q % 2 = 1 ∧ cyk f q 6 q = true
  | 0 => ⟨fun h => absurd h (b_zero q), fun h => absurd h.1 (Nat.not_lt_zero _)⟩
  | p + 1 => by
    have ih := gns_bit f s q p
    unfold gns
    by_cases z : s / 2 ^ p % 2 = 1 ∧ cyk f p 6 p = true
    · rw [if_pos z, b_orr, b_pow, ih]
      constructor
      · intro h
        rcases h with h | h
        · exact ⟨by omega, h.2⟩
        · subst h; exact ⟨by omega, z⟩
      · intro h
        by_cases e : q = p
        · exact Or.inr e.symm
        · exact Or.inl ⟨by omega, h.2⟩
    · rw [if_neg z, ih]
      constructor
      · intro h; exact ⟨by omega, h.2⟩
      · intro h
        by_cases e : q = p
        · subst e; exact absurd h.2 z
        · exact ⟨by omega, h.2⟩
theorem gns_n {f : Nat → Nat} {s n : Nat} (hs : s < 2 ^ n) (hn : n ≤ 6) : gns f s n = gns f s 6 := by
  apply b_ext (gns_lt f s n hn) (gns_lt f s 6 (by decide))
  intro q hq
  rw [gns_bit, gns_bit]
  constructor
  · intro h; exact ⟨hq, h.2⟩
  · intro h; exact ⟨Nat.not_le.mp (fun z => b_out hs z h.2.1), h.2⟩
theorem s_ne {s : Nat} (hs : s < 64) (h : ¬ s = 0) : ∃ p, p < 6 ∧ s / 2 ^ p % 2 = 1 := by
  apply Classical.byContradiction
  intro hno
  apply h
  apply b_ext hs (by decide)
  intro p hp
  exact ⟨fun q => absurd ⟨p, hp, q⟩ hno, fun q => absurd q (b_zero p)⟩
abbrev gon (N : NS) (s : Nat) : Nat := gns (pts N s) s 6
theorem gon_ne {N : NS} (ok : N_ok N) {s : Nat} (hs : s < 2 ^ N_n N) (h : ¬ s = 0) : ∃ q, q < 6 ∧ s / 2 ^ q % 2 = 1 ∧ gon N s / 2 ^ q % 2 = 1 := by
  have hn6 := ok.1
  have h64 : s < 64 := two_le6 hn6 hs
  obtain ⟨p, hp, hb⟩ := s_ne h64 h
  have hin : ∀ i, s / 2 ^ itr (pts N s) i p % 2 = 1 := by
    have : ∀ i q, s / 2 ^ q % 2 = 1 → s / 2 ^ itr (pts N s) i q % 2 = 1 := by
      intro i
      induction i with
      | zero => exact fun q h => h
      | succ i ih => exact fun q h => ih _ (pts_in ok hs h).1
    exact fun i => this i p hb
  have hlt : ∀ i, itr (pts N s) i p < N_n N := fun i => Nat.not_le.mp (fun z => b_out hs z (hin i))
  have key : ∃ i j, i < j ∧ j ≤ N_n N ∧ itr (pts N s) i p = itr (pts N s) j p := by
    apply Classical.byContradiction
    intro hno
    obtain ⟨i, hi, ei⟩ := fb_onto (f := fun i => itr (pts N s) i p) (fun i _ => hlt i) (fun i j a b e => hno ⟨i, j, a, by omega, e⟩) (hlt (N_n N))
    exact hno ⟨i, N_n N, hi, Nat.le_refl _, ei⟩
  obtain ⟨i, j, hij, hj, e⟩ := key
  have q6 : itr (pts N s) i p < 6 := by have := hlt i; omega
  refine ⟨itr (pts N s) i p, q6, hin i, (gns_bit _ _ _ _).mpr ⟨q6, hin i, (cyk_iff _ _ _ _).mpr ⟨j - i, by omega, by omega, ?_⟩⟩⟩
  rw [itr_add, show i + (j - i) = j by omega, ← e]
theorem pop_less : (List.range 64).all (fun s => (List.range 64).all (fun g => decide (s &&& g = 0) || decide (pop (s &&& (63 ^^^ g)) < pop s))) = true := by decide +kernel
theorem gon_pop {N : NS} (ok : N_ok N) {s : Nat} (hs : s < 2 ^ N_n N) (h : ¬ s = 0) : pop (s &&& (63 ^^^ gon N s)) < pop s := by
  have h64 : s < 64 := two_le6 ok.1 hs
  have hg := gns_lt (pts N s) s 6 (by decide)
  have := List.all_eq_true.mp (List.all_eq_true.mp pop_less s (List.mem_range.mpr h64)) (gon N s) (List.mem_range.mpr hg)
  rw [Bool.or_eq_true, decide_eq_true_eq, decide_eq_true_eq] at this
  rcases this with z | z
  · obtain ⟨q, hq, b1, b2⟩ := gon_ne ok hs h
    have := (b_and s (gon N s) q).mpr ⟨b1, b2⟩
    rw [z] at this
    exact absurd this (b_zero q)
  · exact z
/-- the coat that one has traded for -/
def trd (N : NS) : Nat → Nat → Nat → Nat
  | 0, _, p => N_t N p
  | f + 1, s, p => if s / 2 ^ p % 2 = 1 then (if gon N s / 2 ^ p % 2 = 1 then N_t N (pts N s p) else trd N f (s &&& (63 ^^^ gon N s)) p) else N_t N p
theorem trd_o {N : NS} {f s p : Nat} (h : ¬ s / 2 ^ p % 2 = 1) : trd N f s p = N_t N p := by
  cases f with
  | zero => rfl
  | succ f => exact if_neg h
theorem trd_g {N : NS} {f s p : Nat} (h : s / 2 ^ p % 2 = 1) (h2 : gon N s / 2 ^ p % 2 = 1) : trd N (f + 1) s p = N_t N (pts N s p) := by
  show (if _ then _ else _) = _
  rw [if_pos h, if_pos h2]
theorem trd_s {N : NS} {f s p : Nat} (h : s / 2 ^ p % 2 = 1) (h2 : ¬ gon N s / 2 ^ p % 2 = 1) : trd N (f + 1) s p = trd N f (s &&& (63 ^^^ gon N s)) p := by
  show (if _ then _ else _) = _
  rw [if_pos h, if_neg h2]
theorem trd_st {N : NS} (ok : N_ok N) (p : Nat) : ∀ f s, s < 2 ^ N_n N → pop s ≤ f → trd N (f + 1) s p = trd N f s p := by
  intro f
  induction f with
  | zero =>
    intro s hs h
    by_cases q : s / 2 ^ p % 2 = 1
    · have := gon_pop ok hs (fun z => by rw [z] at q; exact b_zero p q)
      omega
    · rw [trd_o q, trd_o q]
  | succ f ih =>
    intro s hs h
    by_cases q : s / 2 ^ p % 2 = 1
    · by_cases r : gon N s / 2 ^ p % 2 = 1
      · rw [trd_g q r, trd_g q r]
      · have := gon_pop ok hs (fun z => by rw [z] at q; exact b_zero p q)
        rw [trd_s q r, trd_s q r]
        exact ih _ (Nat.lt_of_le_of_lt Nat.and_le_left hs) (by omega)
    · rw [trd_o q, trd_o q]
theorem trd_pop {N : NS} (ok : N_ok N) (p : Nat) {s : Nat} (hs : s < 2 ^ N_n N) : ∀ k, trd N (pop s + k) s p = trd N (pop s) s p
  | 0 => rfl
  | k + 1 => (trd_st ok p (pop s + k) s hs (Nat.le_add_right _ _)).trans (trd_pop ok p hs k)
theorem trd_ge {N : NS} (ok : N_ok N) (p : Nat) {s f : Nat} (hs : s < 2 ^ N_n N) (h : pop s ≤ f) : trd N f s p = trd N (pop s) s p := by
  have := trd_pop ok p hs (f - pop s)
  rwa [show pop s + (f - pop s) = f by omega] at this
def wil (N : NS) : Nat := (2 ^ N_n N - 1) &&& (63 ^^^ N_w N)
theorem wil_lt (N : NS) : wil N < 2 ^ N_n N := Nat.lt_of_le_of_lt Nat.and_le_left (by have := Nat.two_pow_pos (N_n N); omega)
def sp_trade (S : SS) (x : Int32) : Int32 × SS := if ir x 0 (N_n (S_N S) - 1 : Int) then (nI (trd (S_N S) 6 (wil (S_N S)) (cl x)), S) else (-1, S)
theorem pxx_88 {x : Nat → Nat} (hx : ∀ k, k < 6 → x k < 6) (j : Nat) : ∀ k, k < 6 → pxx x j k < 8 := by
  intro k hk
  unfold pxx
  split
  · have := hx k hk; omega
  · omega
theorem pxx_same {x : Nat → Nat} {j : Nat} (h : x j = j) : pxx x (j + 1) = pxx x j := by
  rw [← pxx_s, h]
  funext k
  unfold ud
  split
  · rename_i e
    subst e
    exact (if_neg (Nat.lt_irrefl _)).symm
  · rfl
theorem trd_lt {N : NS} (ok : N_ok N) {p : Nat} (hp : p < 6) : ∀ f s, s < 2 ^ N_n N → trd N f s p < 6
  | 0, _, _ => ok.pm.1 p hp
  | f + 1, s, hs => by
    by_cases q : s / 2 ^ p % 2 = 1
    · by_cases r : gon N s / 2 ^ p % 2 = 1
      · rw [trd_g q r]; exact ok.pm.1 _ (pts_8 ok hs p hp)
      · rw [trd_s q r]; exact trd_lt ok hp f _ (Nat.lt_of_le_of_lt Nat.and_le_left hs)
    · rw [trd_o q]; exact ok.pm.1 p hp
theorem c_hasMostLiked {m : Nat} {h : ab_H} {kp : Bool} (h1 : h 1 = oO kp) {N : NS} (hX : NX h 2 N) (ok : N_ok N) {p s : Nat} (hp : p < 6) (hs : s < 64) : ab_D Y_Coat_hasMostLiked [.ref 1, .int (nI p), .int (nI s)] m h (some (.int (nI (whb N p (bc N s p (N_n N)))))) m (h) := by
  refine ab_C.of (L := [some (.ref 1), some (.int (nI p)), some (.int (nI s)), none, none, none, none]) rfl rfl (Nat.le_of_ble_eq_true rfl) (fun l => ?_)
  obtain ⟨n0, ⟨gx, hx, ax⟩, ⟨gy, hy, ay⟩, ⟨gm, hm, am⟩, ⟨gl, hl, al⟩, ⟨ga, ha, aa⟩, ⟨gi, hi, ai⟩, ⟨gj, hj0, aj⟩, ⟨gf, hf0, af⟩⟩ := id hX
  have hn6 : N_n N ≤ 6 := ok.1
  have hns : N_ns N ≤ 4 := ok.2.2.2.2.2.2.2.2.1
  have hpm := ok.pm
  have hw6 := ok.w6
  have hfx := ok.2.2.1
  have bx := ok.2.2.2.2.2.1
  have bi := ok.2.2.2.2.2.2.2.2.2.1
  have blk := ok.2.2.2.2.2.2.1
  have loop : ∀ kf j, j + kf = N_n N → ab_W Y_Coat_hasMostLiked none l (fun r m2 h2 => r = some (.int (nI (whb N p (bc N s p (N_n N))))) ∧ m2 = m ∧ h2 = h) 8 [some (.ref 1), some (.int (nI p)), some (.int (nI s)), some (.int (mst N p (bc N s p (j)))), some (.int (nI (whb N p (bc N s p (j))))), some (.int (nI (j))), none] [] m (h) (0, 0) := by
    intro kf
    induction kf with
    | zero =>
      intro j hj 
      have hjn : N_n N = j := by omega
      subst hjn
      refine aw_iload d_Coat_hasMostLiked_8 rfl ?_
      refine aw_aload_n d_Coat_hasMostLiked_10 rfl ?_
      refine aw_get (k := 0) d_Coat_hasMostLiked_11 cl_Coat k_Coat_10 (by decide) h1 rfl ?_
      refine aw_get (k := 0) d_Coat_hasMostLiked_14 cl_Night k_Coat_82 (by decide) n0 rfl ?_
      refine aw_icmp_ge (tgt := 78) d_Coat_hasMostLiked_17 (by decide) (fun c17 => ?_) (fun c17 => ?_)
      · refine aw_iload d_Coat_hasMostLiked_78 rfl ?_
        refine aw_ireturn d_Coat_hasMostLiked_80 rfl rfl ?_
        exact ⟨rfl, rfl, rfl⟩
      · exact absurd (Int32.le_refl _) c17
    | succ kf ih =>
      intro j hj 
      refine aw_iload d_Coat_hasMostLiked_8 rfl ?_
      refine aw_aload_n d_Coat_hasMostLiked_10 rfl ?_
      refine aw_get (k := 0) d_Coat_hasMostLiked_11 cl_Coat k_Coat_10 (by decide) h1 rfl ?_
      refine aw_get (k := 0) d_Coat_hasMostLiked_14 cl_Night k_Coat_82 (by decide) n0 rfl ?_
      refine aw_icmp_ge (tgt := 78) d_Coat_hasMostLiked_17 (by decide) (fun c17 => ?_) (fun c17 => ?_)
      · exact absurd c17 (nI_ge (by omega) (by omega))
      · refine aw_aload_n d_Coat_hasMostLiked_20 rfl ?_
        refine aw_get (k := 0) d_Coat_hasMostLiked_21 cl_Coat k_Coat_10 (by decide) h1 rfl ?_
        refine aw_get (k := 6) d_Coat_hasMostLiked_24 cl_Night k_Coat_96 (by decide) n0 rfl ?_
        refine aw_iload d_Coat_hasMostLiked_27 rfl ?_
        refine aw_s0i d_Coat_hasMostLiked_29 k_Coat_117 ok_Rows_placeOf rfl ⟨rfl, rfl⟩ (c_placeOf ok.pm (show j < 6 by omega)) rfl rfl (Nat.le_of_ble_eq_true rfl) ?_
        refine aw_istore (L' := [some (.ref 1), some (.int (nI p)), some (.int (nI s)), some (.int (mst N p (bc N s p (j)))), some (.int (nI (whb N p (bc N s p (j))))), some (.int (nI (j))), some (.int (nI (iv (N_t N) j)))]) d_Coat_hasMostLiked_32 ⟨by decide, rfl⟩ rfl ?_
        refine aw_iload_n d_Coat_hasMostLiked_34 rfl ?_
        refine aw_iload d_Coat_hasMostLiked_35 rfl ?_
        refine aw_ishr d_Coat_hasMostLiked_37 ?_
        refine aw_iconst (v := nI 1) d_Coat_hasMostLiked_38 (by decide) ?_
        refine aw_iand d_Coat_hasMostLiked_39 ?_
        rw [b_at (by omega) (by have := (iv_t ok.pm (show j < 6 by omega)).2.1; omega)]
        refine aw_if_eq (tgt := 72) d_Coat_hasMostLiked_40 (by decide) (fun c40 => ?_) (fun c40 => ?_)
        · refine aw_iinc (v := nI ((j) + 1)) (L' := [some (.ref 1), some (.int (nI p)), some (.int (nI s)), some (.int (mst N p (bc N s p (j)))), some (.int (nI (whb N p (bc N s p (j))))), some (.int (nI ((j) + 1))), some (.int (nI (iv (N_t N) j)))]) d_Coat_hasMostLiked_72 rfl (nI_1 _) ⟨by decide, rfl⟩ rfl ?_
          refine aw_goto (tgt := 8) d_Coat_hasMostLiked_75 (by decide) ?_
          have bj := blk (6 * p + j) (by omega)
          first
            | (rw [← bc_n (p := p) (b_z.mp c40)]
               exact aw_drop 6 (ih (j + 1) (by omega)))
            | (have e1 := b_nz.mp c40
               cases eb : bc N s p j with
               | none =>
                 rw [eb] at c54
                 exact absurd c54 (by show ¬ nI _ ≤ (-1 : Int32); rw [fa_le, nI_toInt (by omega)]; exact Int.not_le.mpr (Int.lt_of_lt_of_le (show (-1 : Int32).toInt < 0 by decide) (Int.natCast_nonneg _)))
               | some b =>
                 have hb := (bc_is N s p j).2 b eb
                 have bb := blk (6 * p + b) (by omega)
                 rw [eb] at c54
                 have c54 : N_lk N (6 * p + j) ≤ N_lk N (6 * p + b) := (nI_leI (by omega) (by omega)).mp c54
                 rw [← bc_k e1 eb (by omega)]
                 exact aw_drop 6 (ih (j + 1) (by omega)))
            | (have e1 := b_nz.mp c40
               have e2 : bc N s p (j + 1) = some j := bc_s e1 (fun b eb => by
                 have hb := (bc_is N s p j).2 b eb
                 have bb := blk (6 * p + b) (by omega)
                 rw [eb] at c54
                 exact Nat.not_le.mp (fun z => c54 (nI_le z (by omega))))
               have z := ih (j + 1) (by omega)
               rw [e2] at z
               exact aw_drop 6 z)
        · refine aw_aload_n d_Coat_hasMostLiked_43 rfl ?_
          refine aw_get (k := 0) d_Coat_hasMostLiked_44 cl_Coat k_Coat_10 (by decide) h1 rfl ?_
          refine aw_iload_n d_Coat_hasMostLiked_47 rfl ?_
          refine aw_iload d_Coat_hasMostLiked_48 rfl ?_
          refine aw_v0i (a := 2) d_Coat_hasMostLiked_50 k_Coat_132 ok_Night_liking rfl ⟨rfl, rfl⟩ cl_Night n0 (c_liking n0 hl p j hp (by omega)) rfl rfl (Nat.le_of_ble_eq_true rfl) ?_
          rw [al _ (by omega)]
          refine aw_iload_n d_Coat_hasMostLiked_53 rfl ?_
          refine aw_icmp_le (tgt := 72) d_Coat_hasMostLiked_54 (by decide) (fun c54 => ?_) (fun c54 => ?_)
          · refine aw_iinc (v := nI ((j) + 1)) (L' := [some (.ref 1), some (.int (nI p)), some (.int (nI s)), some (.int (mst N p (bc N s p (j)))), some (.int (nI (whb N p (bc N s p (j))))), some (.int (nI ((j) + 1))), some (.int (nI (iv (N_t N) j)))]) d_Coat_hasMostLiked_72 rfl (nI_1 _) ⟨by decide, rfl⟩ rfl ?_
            refine aw_goto (tgt := 8) d_Coat_hasMostLiked_75 (by decide) ?_
            have bj := blk (6 * p + j) (by omega)
            first
              | (rw [← bc_n (p := p) (b_z.mp c40)]
                 exact aw_drop 6 (ih (j + 1) (by omega)))
              | (have e1 := b_nz.mp c40
                 cases eb : bc N s p j with
                 | none =>
                   rw [eb] at c54
                   exact absurd c54 (by show ¬ nI _ ≤ (-1 : Int32); rw [fa_le, nI_toInt (by omega)]; exact Int.not_le.mpr (Int.lt_of_lt_of_le (show (-1 : Int32).toInt < 0 by decide) (Int.natCast_nonneg _)))
                 | some b =>
                   have hb := (bc_is N s p j).2 b eb
                   have bb := blk (6 * p + b) (by omega)
                   rw [eb] at c54
                   have c54 : N_lk N (6 * p + j) ≤ N_lk N (6 * p + b) := (nI_leI (by omega) (by omega)).mp c54
                   rw [← bc_k e1 eb (by omega)]
                   exact aw_drop 6 (ih (j + 1) (by omega)))
              | (have e1 := b_nz.mp c40
                 have e2 : bc N s p (j + 1) = some j := bc_s e1 (fun b eb => by
                   have hb := (bc_is N s p j).2 b eb
                   have bb := blk (6 * p + b) (by omega)
                   rw [eb] at c54
                   exact Nat.not_le.mp (fun z => c54 (nI_le z (by omega))))
                 have z := ih (j + 1) (by omega)
                 rw [e2] at z
                 exact aw_drop 6 z)
          · refine aw_aload_n d_Coat_hasMostLiked_57 rfl ?_
            refine aw_get (k := 0) d_Coat_hasMostLiked_58 cl_Coat k_Coat_10 (by decide) h1 rfl ?_
            refine aw_iload_n d_Coat_hasMostLiked_61 rfl ?_
            refine aw_iload d_Coat_hasMostLiked_62 rfl ?_
            refine aw_v0i (a := 2) d_Coat_hasMostLiked_64 k_Coat_132 ok_Night_liking rfl ⟨rfl, rfl⟩ cl_Night n0 (c_liking n0 hl p j hp (by omega)) rfl rfl (Nat.le_of_ble_eq_true rfl) ?_
            rw [al _ (by omega)]
            refine aw_istore_n (L' := [some (.ref 1), some (.int (nI p)), some (.int (nI s)), some (.int (nI (N_lk N (6 * p + j)))), some (.int (nI (whb N p (bc N s p (j))))), some (.int (nI (j))), some (.int (nI (iv (N_t N) j)))]) d_Coat_hasMostLiked_67 ⟨by decide, rfl⟩ rfl ?_
            refine aw_iload d_Coat_hasMostLiked_68 rfl ?_
            refine aw_istore (L' := [some (.ref 1), some (.int (nI p)), some (.int (nI s)), some (.int (nI (N_lk N (6 * p + j)))), some (.int (nI (iv (N_t N) j))), some (.int (nI (j))), some (.int (nI (iv (N_t N) j)))]) d_Coat_hasMostLiked_70 ⟨by decide, rfl⟩ rfl ?_
            refine aw_iinc (v := nI ((j) + 1)) (L' := [some (.ref 1), some (.int (nI p)), some (.int (nI s)), some (.int (nI (N_lk N (6 * p + j)))), some (.int (nI (iv (N_t N) j))), some (.int (nI ((j) + 1))), some (.int (nI (iv (N_t N) j)))]) d_Coat_hasMostLiked_72 rfl (nI_1 _) ⟨by decide, rfl⟩ rfl ?_
            refine aw_goto (tgt := 8) d_Coat_hasMostLiked_75 (by decide) ?_
            have bj := blk (6 * p + j) (by omega)
            first
              | (rw [← bc_n (p := p) (b_z.mp c40)]
                 exact aw_drop 6 (ih (j + 1) (by omega)))
              | (have e1 := b_nz.mp c40
                 cases eb : bc N s p j with
                 | none =>
                   rw [eb] at c54
                   exact absurd c54 (by show ¬ nI _ ≤ (-1 : Int32); rw [fa_le, nI_toInt (by omega)]; exact Int.not_le.mpr (Int.lt_of_lt_of_le (show (-1 : Int32).toInt < 0 by decide) (Int.natCast_nonneg _)))
                 | some b =>
                   have hb := (bc_is N s p j).2 b eb
                   have bb := blk (6 * p + b) (by omega)
                   rw [eb] at c54
                   have c54 : N_lk N (6 * p + j) ≤ N_lk N (6 * p + b) := (nI_leI (by omega) (by omega)).mp c54
                   rw [← bc_k e1 eb (by omega)]
                   exact aw_drop 6 (ih (j + 1) (by omega)))
              | (have e1 := b_nz.mp c40
                 have e2 : bc N s p (j + 1) = some j := bc_s e1 (fun b eb => by
                   have hb := (bc_is N s p j).2 b eb
                   have bb := blk (6 * p + b) (by omega)
                   rw [eb] at c54
                   exact Nat.not_le.mp (fun z => c54 (nI_le z (by omega))))
                 have z := ih (j + 1) (by omega)
                 rw [e2] at z
                 exact aw_drop 6 z)
  refine aw_iconst (v := (-1)) d_Coat_hasMostLiked_0 (by decide) ?_
  refine aw_istore_n (L' := [some (.ref 1), some (.int (nI p)), some (.int (nI s)), some (.int (-1)), none, none, none]) d_Coat_hasMostLiked_1 ⟨by decide, rfl⟩ rfl ?_
  refine aw_iload_n d_Coat_hasMostLiked_2 rfl ?_
  refine aw_istore (L' := [some (.ref 1), some (.int (nI p)), some (.int (nI s)), some (.int (-1)), some (.int (nI p)), none, none]) d_Coat_hasMostLiked_3 ⟨by decide, rfl⟩ rfl ?_
  refine aw_iconst (v := nI 0) d_Coat_hasMostLiked_5 (by decide) ?_
  refine aw_istore (L' := [some (.ref 1), some (.int (nI p)), some (.int (nI s)), some (.int (-1)), some (.int (nI p)), some (.int (nI 0)), none]) d_Coat_hasMostLiked_6 ⟨by decide, rfl⟩ rfl ?_
  exact loop (N_n N) 0 (by omega)
theorem c_pointedAt {m : Nat} {h : ab_H} {kp : Bool} (h1 : h 1 = oO kp) {N : NS} (hX : NX h 2 N) (ok : N_ok N) {s : Nat} (hs : s < 2 ^ N_n N) : ab_D Y_Coat_pointedAt [.ref 1, .int (nI s)] m h (some (.int (nI (pk (pts N s))))) m (h) := by
  refine ab_C.of (L := [some (.ref 1), some (.int (nI s)), none, none]) rfl rfl (Nat.le_of_ble_eq_true rfl) (fun l => ?_)
  obtain ⟨n0, ⟨gx, hx, ax⟩, ⟨gy, hy, ay⟩, ⟨gm, hm, am⟩, ⟨gl, hl, al⟩, ⟨ga, ha, aa⟩, ⟨gi, hi, ai⟩, ⟨gj, hj0, aj⟩, ⟨gf, hf0, af⟩⟩ := id hX
  have hn6 : N_n N ≤ 6 := ok.1
  have hns : N_ns N ≤ 4 := ok.2.2.2.2.2.2.2.2.1
  have hpm := ok.pm
  have hw6 := ok.w6
  have hfx := ok.2.2.1
  have bx := ok.2.2.2.2.2.1
  have bi := ok.2.2.2.2.2.2.2.2.2.1
  have hs6 : s < 64 := two_le6 hn6 hs
  have loop : ∀ kf j, j + kf = N_n N → ab_W Y_Coat_pointedAt none l (fun r m2 h2 => r = some (.int (nI (pk (pts N s)))) ∧ m2 = m ∧ h2 = h) 6 [some (.ref 1), some (.int (nI s)), some (.int (nI (pk (pxx (pts N s) (j))))), some (.int (nI (j)))] [] m (h) (0, 0) := by
    intro kf
    induction kf with
    | zero =>
      intro j hj 
      have hjn : N_n N = j := by omega
      subst hjn
      refine aw_iload_n d_Coat_pointedAt_6 rfl ?_
      refine aw_aload_n d_Coat_pointedAt_7 rfl ?_
      refine aw_get (k := 0) d_Coat_pointedAt_8 cl_Coat k_Coat_10 (by decide) h1 rfl ?_
      refine aw_get (k := 0) d_Coat_pointedAt_11 cl_Night k_Coat_82 (by decide) n0 rfl ?_
      refine aw_icmp_ge (tgt := 43) d_Coat_pointedAt_14 (by decide) (fun c14 => ?_) (fun c14 => ?_)
      · refine aw_iload_n d_Coat_pointedAt_43 rfl ?_
        refine aw_ireturn d_Coat_pointedAt_44 rfl rfl ?_
        exact ⟨by rw [pxx_n (fun k hk => pts_out (b_out hs hk))], rfl, rfl⟩
      · exact absurd (Int32.le_refl _) c14
    | succ kf ih =>
      intro j hj 
      refine aw_iload_n d_Coat_pointedAt_6 rfl ?_
      refine aw_aload_n d_Coat_pointedAt_7 rfl ?_
      refine aw_get (k := 0) d_Coat_pointedAt_8 cl_Coat k_Coat_10 (by decide) h1 rfl ?_
      refine aw_get (k := 0) d_Coat_pointedAt_11 cl_Night k_Coat_82 (by decide) n0 rfl ?_
      refine aw_icmp_ge (tgt := 43) d_Coat_pointedAt_14 (by decide) (fun c14 => ?_) (fun c14 => ?_)
      · exact absurd c14 (nI_ge (by omega) (by omega))
      · refine aw_iload_n d_Coat_pointedAt_17 rfl ?_
        refine aw_iload_n d_Coat_pointedAt_18 rfl ?_
        refine aw_ishr d_Coat_pointedAt_19 ?_
        refine aw_iconst (v := nI 1) d_Coat_pointedAt_20 (by decide) ?_
        refine aw_iand d_Coat_pointedAt_21 ?_
        rw [b_at (by omega) (by omega)]
        refine aw_if_eq (tgt := 37) d_Coat_pointedAt_22 (by decide) (fun c22 => ?_) (fun c22 => ?_)
        · refine aw_iinc (v := nI ((j) + 1)) (L' := [some (.ref 1), some (.int (nI s)), some (.int (nI (pk (pxx (pts N s) (j))))), some (.int (nI ((j) + 1)))]) d_Coat_pointedAt_37 rfl (nI_1 _) ⟨by decide, rfl⟩ rfl ?_
          refine aw_goto (tgt := 6) d_Coat_pointedAt_40 (by decide) ?_
          first
            | (rw [← pxx_same (pts_out (N := N) (b_z.mp c22))]
               exact ih (j + 1) (by omega))
            | (rw [show whb N j (bc N s j (N_n N)) = pts N s j from (if_pos (b_nz.mp c22)).symm, pxx_s]
               exact ih (j + 1) (by omega))
        · refine aw_iload_n d_Coat_pointedAt_25 rfl ?_
          refine aw_iload_n d_Coat_pointedAt_26 rfl ?_
          refine aw_aload_n d_Coat_pointedAt_27 rfl ?_
          refine aw_iload_n d_Coat_pointedAt_28 rfl ?_
          refine aw_iload_n d_Coat_pointedAt_29 rfl ?_
          refine aw_v0i (a := 1) d_Coat_pointedAt_30 k_Coat_361 ok_Coat_hasMostLiked rfl ⟨rfl, rfl⟩ cl_Coat h1 (c_hasMostLiked h1 hX ok (show j < 6 by omega) hs6) rfl rfl (Nat.le_of_ble_eq_true rfl) ?_
          refine aw_s0i d_Coat_pointedAt_33 k_Coat_364 ok_Rows_with rfl ⟨rfl, rfl⟩ (c_with (pxx_88 (pts_8 ok hs) j) (show j < 6 by omega) (by rw [show whb N j (bc N s j (N_n N)) = pts N s j from (if_pos (b_nz.mp c22)).symm]; have := pts_8 ok hs j (by omega); omega)) rfl rfl (Nat.le_of_ble_eq_true rfl) ?_
          refine aw_istore_n (L' := [some (.ref 1), some (.int (nI s)), some (.int (nI (pk (ud (pxx (pts N s) j) j (whb N j (bc N s j (N_n N))))))), some (.int (nI (j)))]) d_Coat_pointedAt_36 ⟨by decide, rfl⟩ rfl ?_
          refine aw_iinc (v := nI ((j) + 1)) (L' := [some (.ref 1), some (.int (nI s)), some (.int (nI (pk (ud (pxx (pts N s) j) j (whb N j (bc N s j (N_n N))))))), some (.int (nI ((j) + 1)))]) d_Coat_pointedAt_37 rfl (nI_1 _) ⟨by decide, rfl⟩ rfl ?_
          refine aw_goto (tgt := 6) d_Coat_pointedAt_40 (by decide) ?_
          first
            | (rw [← pxx_same (pts_out (N := N) (b_z.mp c22))]
               exact ih (j + 1) (by omega))
            | (rw [show whb N j (bc N s j (N_n N)) = pts N s j from (if_pos (b_nz.mp c22)).symm, pxx_s]
               exact ih (j + 1) (by omega))
  refine aw_ldc_w (v := nI 181896) d_Coat_pointedAt_0 k_Coat_360 ?_
  refine aw_istore_n (L' := [some (.ref 1), some (.int (nI s)), some (.int (nI 181896)), none]) d_Coat_pointedAt_3 ⟨by decide, rfl⟩ rfl ?_
  refine aw_iconst (v := nI 0) d_Coat_pointedAt_4 (by decide) ?_
  refine aw_istore_n (L' := [some (.ref 1), some (.int (nI s)), some (.int (nI 181896)), some (.int (nI 0))]) d_Coat_pointedAt_5 ⟨by decide, rfl⟩ rfl ?_
  rw [show nI 181896 = nI (pk (pxx (pts N s) 0)) by rw [pxx_0, pk_own]]
  exact loop (N_n N) 0 (by omega)
theorem c_inRings {m : Nat} {h : ab_H} {f : Nat → Nat} (hf : ∀ k, k < 6 → f k < 6) {s : Nat} (hs : s < 64) : ab_D Y_Coat_inRings [.int (nI (pk f)), .int (nI s)] m h (some (.int (nI (gns f s 6)))) m (h) := by
  refine ab_C.of (L := [some (.int (nI (pk f))), some (.int (nI s)), none, none, none, none]) rfl rfl (Nat.le_of_ble_eq_true rfl) (fun l => ?_)
  have loop : ∀ ke w, w + ke = 6 → ab_W Y_Coat_inRings none l (fun r m2 h2 => r = some (.int (nI (gns f s 6))) ∧ m2 = m ∧ h2 = h) 4 [some (.int (nI (pk f))), some (.int (nI s)), some (.int (nI (gns f s (w)))), some (.int (nI (w))), none, none] [] m (h) (0, 0) := by
    intro ke
    induction ke with
    | zero =>
      intro w hw 
      have hwn : 6 = w := by omega
      subst hwn
      refine aw_iload_n d_Coat_inRings_4 rfl ?_
      refine aw_bipush (v := nI 6) d_Coat_inRings_5 (by decide) ?_
      refine aw_icmp_ge (tgt := 66) d_Coat_inRings_7 (by decide) (fun c7 => ?_) (fun c7 => ?_)
      · refine aw_iload_n d_Coat_inRings_66 rfl ?_
        refine aw_ireturn d_Coat_inRings_67 rfl rfl ?_
        exact ⟨rfl, rfl, rfl⟩
      · exact absurd (Int32.le_refl _) c7
    | succ ke ih =>
      intro w hw 
      refine aw_iload_n d_Coat_inRings_4 rfl ?_
      refine aw_bipush (v := nI 6) d_Coat_inRings_5 (by decide) ?_
      refine aw_icmp_ge (tgt := 66) d_Coat_inRings_7 (by decide) (fun c7 => ?_) (fun c7 => ?_)
      · exact absurd c7 (nI_ge (by omega) (by omega))
      · refine aw_iload_n d_Coat_inRings_10 rfl ?_
        refine aw_istore (L' := [some (.int (nI (pk f))), some (.int (nI s)), some (.int (nI (gns f s (w)))), some (.int (nI (w))), some (.int (nI (w))), none]) d_Coat_inRings_11 ⟨by decide, rfl⟩ rfl ?_
        refine aw_iconst (v := nI 0) d_Coat_inRings_13 (by decide) ?_
        refine aw_istore (L' := [some (.int (nI (pk f))), some (.int (nI s)), some (.int (nI (gns f s (w)))), some (.int (nI (w))), some (.int (nI (w))), some (.int (nI 0))]) d_Coat_inRings_14 ⟨by decide, rfl⟩ rfl ?_
        have loop2 : ∀ kf j (q : Nat), j + kf = 6 → q < 6 → cyk f w kf q = cyk f w 6 w → ab_W Y_Coat_inRings none l (fun r m2 h2 => r = some (.int (nI (gns f s 6))) ∧ m2 = m ∧ h2 = h) 16 [some (.int (nI (pk f))), some (.int (nI s)), some (.int (nI (gns f s w))), some (.int (nI w)), some (.int (nI q)), some (.int (nI (j)))] [] m (h) (0, 0) := by
          intro kf
          induction kf with
          | zero =>
            intro j q hj hq e0
            have hjn : 6 = j := by omega
            subst hjn
            refine aw_iload d_Coat_inRings_16 rfl ?_
            refine aw_bipush (v := nI 6) d_Coat_inRings_18 (by decide) ?_
            refine aw_icmp_ge (tgt := 60) d_Coat_inRings_20 (by decide) (fun c20 => ?_) (fun c20 => ?_)
            · refine aw_iinc (v := nI (w + 1)) (L' := [some (.int (nI (pk f))), some (.int (nI s)), some (.int (nI (gns f s w))), some (.int (nI (w + 1))), some (.int (nI q)), some (.int (nI (6)))]) d_Coat_inRings_60 rfl (nI_1 _) ⟨by decide, rfl⟩ rfl ?_
              refine aw_goto (tgt := 4) d_Coat_inRings_63 (by decide) ?_
              rw [show gns f s w = gns f s (w + 1) from (if_neg (fun z => by rw [← e0] at z; cases z.2)).symm]
              exact aw_drop 4 (aw_drop 5 (ih (w + 1) (by omega)))
            · exact absurd (Int32.le_refl _) c20
          | succ kf ih2 =>
            intro j q hj hq e0
            refine aw_iload d_Coat_inRings_16 rfl ?_
            refine aw_bipush (v := nI 6) d_Coat_inRings_18 (by decide) ?_
            refine aw_icmp_ge (tgt := 60) d_Coat_inRings_20 (by decide) (fun c20 => ?_) (fun c20 => ?_)
            · exact absurd c20 (nI_ge (by omega) (by omega))
            · refine aw_iload_n d_Coat_inRings_23 rfl ?_
              refine aw_iload_n d_Coat_inRings_24 rfl ?_
              refine aw_ishr d_Coat_inRings_25 ?_
              refine aw_iconst (v := nI 1) d_Coat_inRings_26 (by decide) ?_
              refine aw_iand d_Coat_inRings_27 ?_
              rw [b_at (by omega) (by omega)]
              refine aw_if_eq (tgt := 60) d_Coat_inRings_28 (by decide) (fun c28 => ?_) (fun c28 => ?_)
              · refine aw_iinc (v := nI (w + 1)) (L' := [some (.int (nI (pk f))), some (.int (nI s)), some (.int (nI (gns f s w))), some (.int (nI (w + 1))), some (.int (nI q)), some (.int (nI (j)))]) d_Coat_inRings_60 rfl (nI_1 _) ⟨by decide, rfl⟩ rfl ?_
                refine aw_goto (tgt := 4) d_Coat_inRings_63 (by decide) ?_
                first
                  | (rw [show gns f s w = gns f s (w + 1) from (if_neg (fun z => b_z.mp c28 z.1)).symm]
                     exact aw_drop 4 (aw_drop 5 (ih (w + 1) (by omega))))
                  | (have c42 := (nI_eq (by have := hf q hq; omega) (by omega)).mp c42
                     rw [show gns f s w ||| 2 ^ w = gns f s (w + 1) from (if_pos ⟨b_nz.mp c28, by rw [← e0]; show (decide (f q = w) || cyk f w kf (f q)) = true; rw [decide_eq_true c42, Bool.true_or]⟩).symm]
                     exact aw_drop 4 (aw_drop 5 (ih (w + 1) (by omega))))
              · refine aw_iload_n d_Coat_inRings_31 rfl ?_
                refine aw_iload d_Coat_inRings_32 rfl ?_
                refine aw_s0i d_Coat_inRings_34 k_Coat_114 ok_Rows_at rfl ⟨rfl, rfl⟩ (c_at (fun k hk => by have := hf k hk; omega) hq) rfl rfl (Nat.le_of_ble_eq_true rfl) ?_
                refine aw_istore (L' := [some (.int (nI (pk f))), some (.int (nI s)), some (.int (nI (gns f s w))), some (.int (nI w)), some (.int (nI (f q))), some (.int (nI (j)))]) d_Coat_inRings_37 ⟨by decide, rfl⟩ rfl ?_
                refine aw_iload d_Coat_inRings_39 rfl ?_
                refine aw_iload_n d_Coat_inRings_41 rfl ?_
                refine aw_icmp_ne (tgt := 54) d_Coat_inRings_42 (by decide) (fun c42 => ?_) (fun c42 => ?_)
                · refine aw_iinc (v := nI ((j) + 1)) (L' := [some (.int (nI (pk f))), some (.int (nI s)), some (.int (nI (gns f s w))), some (.int (nI w)), some (.int (nI (f q))), some (.int (nI ((j) + 1)))]) d_Coat_inRings_54 rfl (nI_1 _) ⟨by decide, rfl⟩ rfl ?_
                  refine aw_goto (tgt := 16) d_Coat_inRings_57 (by decide) ?_
                  exact ih2 (j + 1) (f q) (by omega) (hf _ hq) (by rw [← e0]; show _ = (decide (f q = w) || cyk f w kf (f q)); rw [decide_eq_false (fun z => c42 (by rw [z])), Bool.false_or])
                · refine aw_iload_n d_Coat_inRings_45 rfl ?_
                  refine aw_iconst (v := nI 1) d_Coat_inRings_46 (by decide) ?_
                  refine aw_iload_n d_Coat_inRings_47 rfl ?_
                  refine aw_ishl d_Coat_inRings_48 ?_
                  refine aw_ior d_Coat_inRings_49 ?_
                  rw [b_one (by omega), fa_or]
                  refine aw_istore_n (L' := [some (.int (nI (pk f))), some (.int (nI s)), some (.int (nI (gns f s w ||| 2 ^ w))), some (.int (nI w)), some (.int (nI (f q))), some (.int (nI (j)))]) d_Coat_inRings_50 ⟨by decide, rfl⟩ rfl ?_
                  refine aw_goto (tgt := 60) d_Coat_inRings_51 (by decide) ?_
                  refine aw_iinc (v := nI (w + 1)) (L' := [some (.int (nI (pk f))), some (.int (nI s)), some (.int (nI (gns f s w ||| 2 ^ w))), some (.int (nI (w + 1))), some (.int (nI (f q))), some (.int (nI (j)))]) d_Coat_inRings_60 rfl (nI_1 _) ⟨by decide, rfl⟩ rfl ?_
                  refine aw_goto (tgt := 4) d_Coat_inRings_63 (by decide) ?_
                  first
                    | (rw [show gns f s w = gns f s (w + 1) from (if_neg (fun z => b_z.mp c28 z.1)).symm]
                       exact aw_drop 4 (aw_drop 5 (ih (w + 1) (by omega))))
                    | (have c42 := (nI_eq (by have := hf q hq; omega) (by omega)).mp c42
                       rw [show gns f s w ||| 2 ^ w = gns f s (w + 1) from (if_pos ⟨b_nz.mp c28, by rw [← e0]; show (decide (f q = w) || cyk f w kf (f q)) = true; rw [decide_eq_true c42, Bool.true_or]⟩).symm]
                       exact aw_drop 4 (aw_drop 5 (ih (w + 1) (by omega))))
        exact loop2 6 0 w (by omega) (by omega) rfl
  refine aw_iconst (v := nI 0) d_Coat_inRings_0 (by decide) ?_
  refine aw_istore_n (L' := [some (.int (nI (pk f))), some (.int (nI s)), some (.int (nI 0)), none, none, none]) d_Coat_inRings_1 ⟨by decide, rfl⟩ rfl ?_
  refine aw_iconst (v := nI 0) d_Coat_inRings_2 (by decide) ?_
  refine aw_istore_n (L' := [some (.int (nI (pk f))), some (.int (nI s)), some (.int (nI 0)), some (.int (nI 0)), none, none]) d_Coat_inRings_3 ⟨by decide, rfl⟩ rfl ?_
  exact loop 6 0 (by omega)
theorem c_tradedCoat {m : Nat} {h : ab_H} {kp : Bool} (h1 : h 1 = oO kp) {N : NS} (hX : NX h 2 N) (ok : N_ok N) {w : Nat} (hw : w < N_n N) : ab_D Y_Coat_tradedCoat [.ref 1, .int (nI w)] m h (some (.int (nI (trd N 6 (wil N) w)))) m (h) := by
  refine ab_C.of (L := [some (.ref 1), some (.int (nI w)), none, none, none, none]) rfl rfl (Nat.le_of_ble_eq_true rfl) (fun l => ?_)
  obtain ⟨n0, ⟨gx, hx, ax⟩, ⟨gy, hy, ay⟩, ⟨gm, hm, am⟩, ⟨gl, hl, al⟩, ⟨ga, ha, aa⟩, ⟨gi, hi, ai⟩, ⟨gj, hj0, aj⟩, ⟨gf, hf0, af⟩⟩ := id hX
  have hn6 : N_n N ≤ 6 := ok.1
  have hns : N_ns N ≤ 4 := ok.2.2.2.2.2.2.2.2.1
  have hpm := ok.pm
  have hw6 := ok.w6
  have hfx := ok.2.2.1
  have bx := ok.2.2.2.2.2.1
  have bi := ok.2.2.2.2.2.2.2.2.2.1
  have loop : ∀ kf j (s : Nat), j + kf = 6 → s < 2 ^ N_n N → trd N kf s w = trd N 6 (wil N) w → ab_W Y_Coat_tradedCoat none l (fun r m2 h2 => r = some (.int (nI (trd N 6 (wil N) w))) ∧ m2 = m ∧ h2 = h) 20 [some (.ref 1), some (.int (nI w)), some (.int (nI s)), some (.int (nI (j))), none, none] [] m (h) (0, 0) := by
    intro kf
    induction kf with
    | zero =>
      intro j s hj hs e0
      have hjn : 6 = j := by omega
      subst hjn
      refine aw_iload_n d_Coat_tradedCoat_20 rfl ?_
      refine aw_bipush (v := nI 6) d_Coat_tradedCoat_21 (by decide) ?_
      refine aw_icmp_ge (tgt := 88) d_Coat_tradedCoat_23 (by decide) (fun c23 => ?_) (fun c23 => ?_)
      · refine aw_aload_n d_Coat_tradedCoat_88 rfl ?_
        refine aw_get (k := 0) d_Coat_tradedCoat_89 cl_Coat k_Coat_10 (by decide) h1 rfl ?_
        refine aw_get (k := 6) d_Coat_tradedCoat_92 cl_Night k_Coat_96 (by decide) n0 rfl ?_
        refine aw_iload_n d_Coat_tradedCoat_95 rfl ?_
        refine aw_s0i d_Coat_tradedCoat_96 k_Coat_114 ok_Rows_at rfl ⟨rfl, rfl⟩ (c_at hpm.lt8 (show w < 6 by omega)) rfl rfl (Nat.le_of_ble_eq_true rfl) ?_
        refine aw_ireturn d_Coat_tradedCoat_99 rfl rfl ?_
        exact ⟨by rw [← e0]; rfl, rfl, rfl⟩
      · exact absurd (Int32.le_refl _) c23
    | succ kf ih =>
      intro j s hj hs e0
      refine aw_iload_n d_Coat_tradedCoat_20 rfl ?_
      refine aw_bipush (v := nI 6) d_Coat_tradedCoat_21 (by decide) ?_
      refine aw_icmp_ge (tgt := 88) d_Coat_tradedCoat_23 (by decide) (fun c23 => ?_) (fun c23 => ?_)
      · exact absurd c23 (nI_ge (by omega) (by omega))
      · refine aw_iload_n d_Coat_tradedCoat_26 rfl ?_
        refine aw_iload_n d_Coat_tradedCoat_27 rfl ?_
        refine aw_ishr d_Coat_tradedCoat_28 ?_
        refine aw_iconst (v := nI 1) d_Coat_tradedCoat_29 (by decide) ?_
        refine aw_iand d_Coat_tradedCoat_30 ?_
        have hs6 : s < 64 := two_le6 hn6 hs
        rw [b_at (by omega) (by omega)]
        refine aw_if_eq (tgt := 88) d_Coat_tradedCoat_31 (by decide) (fun c31 => ?_) (fun c31 => ?_)
        · refine aw_aload_n d_Coat_tradedCoat_88 rfl ?_
          refine aw_get (k := 0) d_Coat_tradedCoat_89 cl_Coat k_Coat_10 (by decide) h1 rfl ?_
          refine aw_get (k := 6) d_Coat_tradedCoat_92 cl_Night k_Coat_96 (by decide) n0 rfl ?_
          refine aw_iload_n d_Coat_tradedCoat_95 rfl ?_
          refine aw_s0i d_Coat_tradedCoat_96 k_Coat_114 ok_Rows_at rfl ⟨rfl, rfl⟩ (c_at hpm.lt8 (show w < 6 by omega)) rfl rfl (Nat.le_of_ble_eq_true rfl) ?_
          refine aw_ireturn d_Coat_tradedCoat_99 rfl rfl ?_
          exact ⟨by rw [← e0, trd_o (b_z.mp c31)], rfl, rfl⟩
        · refine aw_aload_n d_Coat_tradedCoat_34 rfl ?_
          refine aw_iload_n d_Coat_tradedCoat_35 rfl ?_
          refine aw_v0i (a := 1) d_Coat_tradedCoat_36 k_Coat_354 ok_Coat_pointedAt rfl ⟨rfl, rfl⟩ cl_Coat h1 (c_pointedAt h1 hX ok hs) rfl rfl (Nat.le_of_ble_eq_true rfl) ?_
          refine aw_istore (L' := [some (.ref 1), some (.int (nI w)), some (.int (nI s)), some (.int (nI (j))), some (.int (nI (pk (pts N s)))), none]) d_Coat_tradedCoat_39 ⟨by decide, rfl⟩ rfl ?_
          refine aw_iload d_Coat_tradedCoat_41 rfl ?_
          refine aw_iload_n d_Coat_tradedCoat_43 rfl ?_
          refine aw_s0i d_Coat_tradedCoat_44 k_Coat_357 ok_Coat_inRings rfl ⟨rfl, rfl⟩ (c_inRings (pts_8 ok hs) hs6) rfl rfl (Nat.le_of_ble_eq_true rfl) ?_
          refine aw_istore (L' := [some (.ref 1), some (.int (nI w)), some (.int (nI s)), some (.int (nI (j))), some (.int (nI (pk (pts N s)))), some (.int (nI (gon N s)))]) d_Coat_tradedCoat_47 ⟨by decide, rfl⟩ rfl ?_
          refine aw_iload d_Coat_tradedCoat_49 rfl ?_
          refine aw_iload_n d_Coat_tradedCoat_51 rfl ?_
          refine aw_ishr d_Coat_tradedCoat_52 ?_
          refine aw_iconst (v := nI 1) d_Coat_tradedCoat_53 (by decide) ?_
          refine aw_iand d_Coat_tradedCoat_54 ?_
          rw [b_at (Nat.lt_trans (gns_lt (pts N s) s 6 (by decide)) (by decide)) (by omega)]
          refine aw_if_eq (tgt := 75) d_Coat_tradedCoat_55 (by decide) (fun c55 => ?_) (fun c55 => ?_)
          · refine aw_iload_n d_Coat_tradedCoat_75 rfl ?_
            refine aw_iload d_Coat_tradedCoat_76 rfl ?_
            refine aw_iconst (v := (-1)) d_Coat_tradedCoat_78 (by decide) ?_
            refine aw_ixor d_Coat_tradedCoat_79 ?_
            refine aw_iand d_Coat_tradedCoat_80 ?_
            rw [b_andn _ hs6 _ (gns_lt _ _ 6 (by decide))]
            refine aw_istore_n (L' := [some (.ref 1), some (.int (nI w)), some (.int (nI (s &&& (63 ^^^ gon N s)))), some (.int (nI (j))), some (.int (nI (pk (pts N s)))), some (.int (nI (gon N s)))]) d_Coat_tradedCoat_81 ⟨by decide, rfl⟩ rfl ?_
            refine aw_iinc (v := nI ((j) + 1)) (L' := [some (.ref 1), some (.int (nI w)), some (.int (nI (s &&& (63 ^^^ gon N s)))), some (.int (nI ((j) + 1))), some (.int (nI (pk (pts N s)))), some (.int (nI (gon N s)))]) d_Coat_tradedCoat_82 rfl (nI_1 _) ⟨by decide, rfl⟩ rfl ?_
            refine aw_goto (tgt := 20) d_Coat_tradedCoat_85 (by decide) ?_
            have g0 := b_nz.mp c31
            have g1 := b_z.mp c55
            exact aw_drop 4 (aw_drop 5 (ih (j + 1) _ (by omega) (Nat.lt_of_le_of_lt Nat.and_le_left hs) (by rw [← e0, trd_s g0 g1])))
          · refine aw_aload_n d_Coat_tradedCoat_58 rfl ?_
            refine aw_get (k := 0) d_Coat_tradedCoat_59 cl_Coat k_Coat_10 (by decide) h1 rfl ?_
            refine aw_get (k := 6) d_Coat_tradedCoat_62 cl_Night k_Coat_96 (by decide) n0 rfl ?_
            refine aw_iload d_Coat_tradedCoat_65 rfl ?_
            refine aw_iload_n d_Coat_tradedCoat_67 rfl ?_
            refine aw_s0i d_Coat_tradedCoat_68 k_Coat_114 ok_Rows_at rfl ⟨rfl, rfl⟩ (c_at (fun k hk => by have := pts_8 ok hs k hk; omega) (show w < 6 by omega)) rfl rfl (Nat.le_of_ble_eq_true rfl) ?_
            refine aw_s0i d_Coat_tradedCoat_71 k_Coat_114 ok_Rows_at rfl ⟨rfl, rfl⟩ (c_at hpm.lt8 (pts_8 ok hs w (by omega))) rfl rfl (Nat.le_of_ble_eq_true rfl) ?_
            refine aw_ireturn d_Coat_tradedCoat_74 rfl rfl ?_
            exact ⟨by rw [← e0, trd_g (b_nz.mp c31) (b_nz.mp c55)], rfl, rfl⟩
  refine aw_aload_n d_Coat_tradedCoat_0 rfl ?_
  refine aw_get (k := 0) d_Coat_tradedCoat_1 cl_Coat k_Coat_10 (by decide) h1 rfl ?_
  refine aw_v0i (a := 2) d_Coat_tradedCoat_4 k_Coat_250 ok_Night_all rfl ⟨rfl, rfl⟩ cl_Night n0 (c_all2 n0 hn6) rfl rfl (Nat.le_of_ble_eq_true rfl) ?_
  refine aw_aload_n d_Coat_tradedCoat_7 rfl ?_
  refine aw_get (k := 0) d_Coat_tradedCoat_8 cl_Coat k_Coat_10 (by decide) h1 rfl ?_
  refine aw_get (k := 7) d_Coat_tradedCoat_11 cl_Night k_Coat_120 (by decide) n0 rfl ?_
  refine aw_iconst (v := (-1)) d_Coat_tradedCoat_14 (by decide) ?_
  refine aw_ixor d_Coat_tradedCoat_15 ?_
  refine aw_iand d_Coat_tradedCoat_16 ?_
  rw [b_andn _ (b_63 _ hn6) _ hw6]
  refine aw_istore_n (L' := [some (.ref 1), some (.int (nI w)), some (.int (nI (wil N))), none, none, none]) d_Coat_tradedCoat_17 ⟨by decide, rfl⟩ rfl ?_
  refine aw_iconst (v := nI 0) d_Coat_tradedCoat_18 (by decide) ?_
  refine aw_istore_n (L' := [some (.ref 1), some (.int (nI w)), some (.int (nI (wil N))), some (.int (nI 0)), none, none]) d_Coat_tradedCoat_19 ⟨by decide, rfl⟩ rfl ?_
  exact loop 6 0 _ (by omega) (wil_lt N) rfl
theorem x_trade {V : VV} {m : Nat} {h : ab_H} {S : SS} (hX : PX V m h S) (ok : S_ok S) (x : Int32) : CX V Y_Coat_trade [.int x] m h (fun r S2 => (r, S2) = sp_trade S x) := by
  obtain ⟨⟨a0, ⟨n0, n1, n2, n3, n4, n5, n6, n7, n8⟩, a2⟩, p1, p2, p3, p4, p5, p6, p7⟩ := id hX
  have hn6 : N_n (S_N S) ≤ 6 := ok.1.1
  have hnT := nI_toInt (show N_n (S_N S) < 2 ^ 31 by omega)
  refine ab_C.of (L := [some (.ref 1), some (.int x)]) rfl rfl (Nat.le_of_ble_eq_true rfl) (fun l => ?_)
  refine aw_aload_n d_Coat_trade_0 rfl ?_
  refine aw_get (k := 0) d_Coat_trade_1 cl_Coat k_Coat_10 (by decide) a0 rfl ?_
  refine aw_iload_n d_Coat_trade_4 rfl ?_
  refine aw_v0i (a := 2) d_Coat_trade_5 k_Coat_93 ok_Night_isPerson rfl ⟨rfl, rfl⟩ cl_Night n0 (c_isPerson n0 x) rfl rfl (Nat.le_of_ble_eq_true rfl) ?_
  refine aw_if_eq (tgt := 19) d_Coat_trade_8 (by decide) (fun c8 => ?_) (fun c8 => ?_)
  · refine aw_iconst (v := (-1)) d_Coat_trade_19 (by decide) ?_
    refine aw_ireturn d_Coat_trade_20 rfl rfl ?_
    first
      | (refine ⟨_, S, rfl, ?_, hX, Nat.le_refl _, fun k _ _ => rfl⟩
         unfold sp_trade
         rw [if_pos ⟨by rw [nI_toInt (by omega)]; omega, by rw [nI_toInt (by omega)]; omega⟩, cl_nI (by omega)]; done)
      | (refine ⟨_, S, rfl, ?_, hX, Nat.le_refl _, fun k _ _ => rfl⟩
         unfold sp_trade
         rw [if_neg]
         intro z
         have c := ab_bl_0.mp c8
         simp only [Bool.and_eq_false_iff, Bool.not_eq_false', decide_eq_true_eq, fa_lt, fa_le, hnT, Int32.toInt_zero] at c
         obtain ⟨z3, z4⟩ := z
         omega)
  · obtain ⟨j, hj, rfl⟩ := ab_rng (by omega) (ab_bl_1.mp c8)
    refine aw_aload_n d_Coat_trade_11 rfl ?_
    refine aw_iload_n d_Coat_trade_12 rfl ?_
    refine aw_v0i (a := 1) d_Coat_trade_13 k_Coat_299 ok_Coat_tradedCoat rfl ⟨rfl, rfl⟩ cl_Coat a0 (c_tradedCoat a0 hX.1.2.1 ok.1 hj) rfl rfl (Nat.le_of_ble_eq_true rfl) ?_
    refine aw_goto (tgt := 20) d_Coat_trade_16 (by decide) ?_
    refine aw_ireturn d_Coat_trade_20 rfl rfl ?_
    first
      | (refine ⟨_, S, rfl, ?_, hX, Nat.le_refl _, fun k _ _ => rfl⟩
         unfold sp_trade
         rw [if_pos ⟨by rw [nI_toInt (by omega)]; omega, by rw [nI_toInt (by omega)]; omega⟩, cl_nI (by omega)]; done)
      | (refine ⟨_, S, rfl, ?_, hX, Nat.le_refl _, fun k _ _ => rfl⟩
         unfold sp_trade
         rw [if_neg]
         intro z
         have c := ab_bl_0.mp c8
         simp only [Bool.and_eq_false_iff, Bool.not_eq_false', decide_eq_true_eq, fa_lt, fa_le, hnT, Int32.toInt_zero] at c
         obtain ⟨z3, z4⟩ := z
         omega)
