/-! THE STATE: what a night is: people, the table, who won't (bits), x, y, marks, likes (6 p + c), may (bits), inns, their x, y, rate, seats, meetings, miles, feared, fears -/
abbrev NS : Type := Nat × (Nat → Nat) × Nat × (Nat → Nat) × (Nat → Nat) × (Nat → Nat) × (Nat → Nat) × (Nat → Nat) × Nat × (Nat → Nat) × (Nat → Nat) × Nat × Nat × Int32 × Int32 × Nat × (Nat → Nat)
abbrev N_n (N : NS) : Nat := N.1
abbrev N_t (N : NS) : Nat → Nat := N.2.1
abbrev N_w (N : NS) : Nat := N.2.2.1
abbrev N_x (N : NS) : Nat → Nat := N.2.2.2.1
abbrev N_y (N : NS) : Nat → Nat := N.2.2.2.2.1
abbrev N_mk (N : NS) : Nat → Nat := N.2.2.2.2.2.1
abbrev N_lk (N : NS) : Nat → Nat := N.2.2.2.2.2.2.1
abbrev N_ma (N : NS) : Nat → Nat := N.2.2.2.2.2.2.2.1
abbrev N_ns (N : NS) : Nat := N.2.2.2.2.2.2.2.2.1
abbrev N_ix (N : NS) : Nat → Nat := N.2.2.2.2.2.2.2.2.2.1
abbrev N_iy (N : NS) : Nat → Nat := N.2.2.2.2.2.2.2.2.2.2.1
abbrev N_ra (N : NS) : Nat := N.2.2.2.2.2.2.2.2.2.2.2.1
abbrev N_se (N : NS) : Nat := N.2.2.2.2.2.2.2.2.2.2.2.2.1
abbrev N_me (N : NS) : Int32 := N.2.2.2.2.2.2.2.2.2.2.2.2.2.1
abbrev N_mi (N : NS) : Int32 := N.2.2.2.2.2.2.2.2.2.2.2.2.2.2.1
abbrev N_fe (N : NS) : Nat := N.2.2.2.2.2.2.2.2.2.2.2.2.2.2.2.1
abbrev N_ff (N : NS) : Nat → Nat := N.2.2.2.2.2.2.2.2.2.2.2.2.2.2.2.2
abbrev N_n_ (N : NS) (v : Nat) : NS := (v, N.2)
abbrev N_t_ (N : NS) (v : Nat → Nat) : NS := (N.1, v, N.2.2)
abbrev N_w_ (N : NS) (v : Nat) : NS := (N.1, N.2.1, v, N.2.2.2)
abbrev N_x_ (N : NS) (v : Nat → Nat) : NS := (N.1, N.2.1, N.2.2.1, v, N.2.2.2.2)
abbrev N_y_ (N : NS) (v : Nat → Nat) : NS := (N.1, N.2.1, N.2.2.1, N.2.2.2.1, v, N.2.2.2.2.2)
abbrev N_mk_ (N : NS) (v : Nat → Nat) : NS := (N.1, N.2.1, N.2.2.1, N.2.2.2.1, N.2.2.2.2.1, v, N.2.2.2.2.2.2)
abbrev N_lk_ (N : NS) (v : Nat → Nat) : NS := (N.1, N.2.1, N.2.2.1, N.2.2.2.1, N.2.2.2.2.1, N.2.2.2.2.2.1, v, N.2.2.2.2.2.2.2)
abbrev N_ma_ (N : NS) (v : Nat → Nat) : NS := (N.1, N.2.1, N.2.2.1, N.2.2.2.1, N.2.2.2.2.1, N.2.2.2.2.2.1, N.2.2.2.2.2.2.1, v, N.2.2.2.2.2.2.2.2)
abbrev N_ns_ (N : NS) (v : Nat) : NS := (N.1, N.2.1, N.2.2.1, N.2.2.2.1, N.2.2.2.2.1, N.2.2.2.2.2.1, N.2.2.2.2.2.2.1, N.2.2.2.2.2.2.2.1, v, N.2.2.2.2.2.2.2.2.2)
abbrev N_ix_ (N : NS) (v : Nat → Nat) : NS := (N.1, N.2.1, N.2.2.1, N.2.2.2.1, N.2.2.2.2.1, N.2.2.2.2.2.1, N.2.2.2.2.2.2.1, N.2.2.2.2.2.2.2.1, N.2.2.2.2.2.2.2.2.1, v, N.2.2.2.2.2.2.2.2.2.2)
abbrev N_iy_ (N : NS) (v : Nat → Nat) : NS := (N.1, N.2.1, N.2.2.1, N.2.2.2.1, N.2.2.2.2.1, N.2.2.2.2.2.1, N.2.2.2.2.2.2.1, N.2.2.2.2.2.2.2.1, N.2.2.2.2.2.2.2.2.1, N.2.2.2.2.2.2.2.2.2.1, v, N.2.2.2.2.2.2.2.2.2.2.2)
abbrev N_ra_ (N : NS) (v : Nat) : NS := (N.1, N.2.1, N.2.2.1, N.2.2.2.1, N.2.2.2.2.1, N.2.2.2.2.2.1, N.2.2.2.2.2.2.1, N.2.2.2.2.2.2.2.1, N.2.2.2.2.2.2.2.2.1, N.2.2.2.2.2.2.2.2.2.1, N.2.2.2.2.2.2.2.2.2.2.1, v, N.2.2.2.2.2.2.2.2.2.2.2.2)
abbrev N_se_ (N : NS) (v : Nat) : NS := (N.1, N.2.1, N.2.2.1, N.2.2.2.1, N.2.2.2.2.1, N.2.2.2.2.2.1, N.2.2.2.2.2.2.1, N.2.2.2.2.2.2.2.1, N.2.2.2.2.2.2.2.2.1, N.2.2.2.2.2.2.2.2.2.1, N.2.2.2.2.2.2.2.2.2.2.1, N.2.2.2.2.2.2.2.2.2.2.2.1, v, N.2.2.2.2.2.2.2.2.2.2.2.2.2)
abbrev N_me_ (N : NS) (v : Int32) : NS := (N.1, N.2.1, N.2.2.1, N.2.2.2.1, N.2.2.2.2.1, N.2.2.2.2.2.1, N.2.2.2.2.2.2.1, N.2.2.2.2.2.2.2.1, N.2.2.2.2.2.2.2.2.1, N.2.2.2.2.2.2.2.2.2.1, N.2.2.2.2.2.2.2.2.2.2.1, N.2.2.2.2.2.2.2.2.2.2.2.1, N.2.2.2.2.2.2.2.2.2.2.2.2.1, v, N.2.2.2.2.2.2.2.2.2.2.2.2.2.2)
abbrev N_mi_ (N : NS) (v : Int32) : NS := (N.1, N.2.1, N.2.2.1, N.2.2.2.1, N.2.2.2.2.1, N.2.2.2.2.2.1, N.2.2.2.2.2.2.1, N.2.2.2.2.2.2.2.1, N.2.2.2.2.2.2.2.2.1, N.2.2.2.2.2.2.2.2.2.1, N.2.2.2.2.2.2.2.2.2.2.1, N.2.2.2.2.2.2.2.2.2.2.2.1, N.2.2.2.2.2.2.2.2.2.2.2.2.1, N.2.2.2.2.2.2.2.2.2.2.2.2.2.1, v, N.2.2.2.2.2.2.2.2.2.2.2.2.2.2.2)
abbrev N_fe_ (N : NS) (v : Nat) : NS := (N.1, N.2.1, N.2.2.1, N.2.2.2.1, N.2.2.2.2.1, N.2.2.2.2.2.1, N.2.2.2.2.2.2.1, N.2.2.2.2.2.2.2.1, N.2.2.2.2.2.2.2.2.1, N.2.2.2.2.2.2.2.2.2.1, N.2.2.2.2.2.2.2.2.2.2.1, N.2.2.2.2.2.2.2.2.2.2.2.1, N.2.2.2.2.2.2.2.2.2.2.2.2.1, N.2.2.2.2.2.2.2.2.2.2.2.2.2.1, N.2.2.2.2.2.2.2.2.2.2.2.2.2.2.1, v, N.2.2.2.2.2.2.2.2.2.2.2.2.2.2.2.2)
abbrev N_ff_ (N : NS) (v : Nat → Nat) : NS := (N.1, N.2.1, N.2.2.1, N.2.2.2.1, N.2.2.2.2.1, N.2.2.2.2.2.1, N.2.2.2.2.2.2.1, N.2.2.2.2.2.2.2.1, N.2.2.2.2.2.2.2.2.1, N.2.2.2.2.2.2.2.2.2.1, N.2.2.2.2.2.2.2.2.2.2.1, N.2.2.2.2.2.2.2.2.2.2.2.1, N.2.2.2.2.2.2.2.2.2.2.2.2.1, N.2.2.2.2.2.2.2.2.2.2.2.2.2.1, N.2.2.2.2.2.2.2.2.2.2.2.2.2.2.1, N.2.2.2.2.2.2.2.2.2.2.2.2.2.2.2.1, v)
/-- all: the night, the image, the tape's length and signs, lanes, sizes, items -/
abbrev SS : Type := NS × Option NS × Nat × (Nat → Int32) × (Nat → Int32) × (Nat → Int32) × (Nat → Nat → Int32)
abbrev S_N (S : SS) : NS := S.1
abbrev S_K (S : SS) : Option NS := S.2.1
abbrev S_tl (S : SS) : Nat := S.2.2.1
abbrev S_ts (S : SS) : Nat → Int32 := S.2.2.2.1
abbrev S_la (S : SS) : Nat → Int32 := S.2.2.2.2.1
abbrev S_sz (S : SS) : Nat → Int32 := S.2.2.2.2.2.1
abbrev S_it (S : SS) : Nat → Nat → Int32 := S.2.2.2.2.2.2
abbrev S_N_ (S : SS) (v : NS) : SS := (v, S.2)
abbrev S_K_ (S : SS) (v : Option NS) : SS := (S.1, v, S.2.2)
abbrev S_tl_ (S : SS) (v : Nat) : SS := (S.1, S.2.1, v, S.2.2.2)
abbrev S_ts_ (S : SS) (v : Nat → Int32) : SS := (S.1, S.2.1, S.2.2.1, v, S.2.2.2.2)
abbrev S_la_ (S : SS) (v : Nat → Int32) : SS := (S.1, S.2.1, S.2.2.1, S.2.2.2.1, v, S.2.2.2.2.2)
abbrev S_sz_ (S : SS) (v : Nat → Int32) : SS := (S.1, S.2.1, S.2.2.1, S.2.2.2.1, S.2.2.2.2.1, v, S.2.2.2.2.2.2)
abbrev S_it_ (S : SS) (v : Nat → Nat → Int32) : SS := (S.1, S.2.1, S.2.2.1, S.2.2.2.1, S.2.2.2.2.1, S.2.2.2.2.2.1, v)
/-- rows of six numbers 0 .. 7 in one -/
def pk (t : Nat → Nat) : Nat := t 0 + 8 * t 1 + 64 * t 2 + 512 * t 3 + 4096 * t 4 + 32768 * t 5
/-- what a night always is -/
def N_ok (N : NS) : Prop := N_n N ≤ 6 ∧ (∀ k, k < 6 → N_t N k < 6) ∧ (∀ k, N_n N ≤ k → N_t N k = k) ∧ (∀ i j, i < 6 → j < 6 → N_t N i = N_t N j → i = j) ∧ N_w N < 2 ^ N_n N ∧ (∀ k, k < 6 → N_x N k < 20 ∧ N_y N k < 20 ∧ N_mk N k < 64) ∧ (∀ k, k < 36 → N_lk N k < 10) ∧ (∀ k, k < N_n N → N_ma N k < 2 ^ N_n N) ∧ N_ns N ≤ 4 ∧ (∀ k, k < 4 → N_ix N k < 20 ∧ N_iy N k < 20) ∧ 1 ≤ N_ra N ∧ N_ra N ≤ 9 ∧ 2 ≤ N_se N ∧ N_se N ≤ 4 ∧ N_fe N ≤ 6 ∧ (∀ k, k < N_fe N → ∃ a i j, N_ff N k = 36 * a + 6 * i + j ∧ a < 3 ∧ i < j ∧ j < N_n N)
/-- a row of the heap holds numbers -/
def rw_ (h : ab_H) (a n : Nat) (f : Nat → Nat) : Prop := ∃ g : Nat → Int32, h a = .inl (n, g) ∧ ∀ k, k < n → g k = nI (f k)
/-- a row of the heap, whatever it holds -/
def ra_ (h : ab_H) (a n : Nat) : Prop := ∃ g : Nat → Int32, h a = .inl (n, g)
abbrev oN (a n : Nat) (tb wo : Int32) (ns ra se : Nat) (me mi : Int32) (fe : Nat) : ab_E := .inr (.inr (1, [.int (nI n), .ref (a + 1), .ref (a + 2), .ref (a + 3), .ref (a + 4), .ref (a + 5), .int tb, .int wo, .int (nI ns), .ref (a + 6), .ref (a + 7), .int (nI ra), .int (nI se), .int me, .int mi, .int (nI fe), .ref (a + 8)]))
/-- the class' night at a (2: night, 11: kept) -/
def NX (h : ab_H) (a : Nat) (N : NS) : Prop := h a = oN a (N_n N) (nI (pk (N_t N))) (nI (N_w N)) (N_ns N) (N_ra N) (N_se N) (N_me N) (N_mi N) (N_fe N) ∧ rw_ h (a + 1) 6 (N_x N) ∧ rw_ h (a + 2) 6 (N_y N) ∧ rw_ h (a + 3) 6 (N_mk N) ∧ rw_ h (a + 4) 36 (N_lk N) ∧ (∃ g : Nat → Int32, h (a + 5) = .inl (6, g) ∧ ∀ k, k < N_n N → ∃ b, b < 64 ∧ g k = nI b ∧ b % 2 ^ N_n N = N_ma N k) ∧ rw_ h (a + 6) 4 (N_ix N) ∧ rw_ h (a + 7) 4 (N_iy N) ∧ rw_ h (a + 8) 6 (N_ff N)
/-- a kept night of which nothing is known -/
def NXq (h : ab_H) (a : Nat) : Prop := (∃ (n : Nat) (tb wo : Int32) (ns ra se : Nat) (me mi : Int32) (fe : Nat), h a = oN a n tb wo ns ra se me mi fe) ∧ ra_ h (a + 1) 6 ∧ ra_ h (a + 2) 6 ∧ ra_ h (a + 3) 6 ∧ ra_ h (a + 4) 36 ∧ ra_ h (a + 5) 6 ∧ ra_ h (a + 6) 4 ∧ ra_ h (a + 7) 4 ∧ ra_ h (a + 8) 6
