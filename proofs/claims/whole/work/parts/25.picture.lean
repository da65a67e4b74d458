/-! the class' objects beside the night, and the whole picture of each side -/
/-- what stands in the class' stores when they are known, and in the reference's: told later; of the night alone -/
abbrev VV : Type := (NS → Int32 → Int32 → (Nat → Int32) → Prop) × (NS → Int32 → Int32 → Prop) × (NS → Int32 → Int32 → (Nat → Int32) → Prop) × (Nat → Nat → Nat → (Nat → Int32) → (Nat → Int32) → (Nat → Int32) → (Nat → Int32) → Prop) × (NS → (Nat → Int32) → (Nat → Int32) → Prop)
abbrev oO (kp : Bool) : ab_E := .inr (.inr (0, [.ref 2, .ref 11, .int (ab_bl kp), .ref 20, .ref 23, .ref 31, .ref 32, .ref 35, .ref 47, .ref 50, .ref 54, .ref 55]))
abbrev oT (len : Nat) (pl : Int32) : ab_E := .inr (.inr (2, [.int (nI len), .int pl, .ref 21, .ref 22]))
abbrev oS : ab_E := .inr (.inr (3, [.ref 24, .ref 29, .ref 30]))
abbrev oSi : ab_E := .inr (.inl (false, 4, fun j => if j < 4 then some (25 + j) else none))
abbrev oG : ab_E := .inr (.inr (4, [.ref 33, .ref 34]))
abbrev oP (kn : Bool) (mi me : Int32) (nv : Value) (bo go li : Int32) : ab_E := .inr (.inr (5, [.int (ab_bl kn), .int mi, .int me, .ref 36, nv, .int bo, .int go, .int li, .ref 37, .ref 38, .ref 39, .ref 40, .ref 41, .ref 45, .ref 46]))
abbrev oH (sz : Int32) : ab_E := .inr (.inr (6, [.int sz, .ref 42, .ref 43, .ref 44]))
abbrev oD (kn : Bool) (da mi : Int32) : ab_E := .inr (.inr (7, [.int (ab_bl kn), .int da, .int mi, .ref 48, .ref 49]))
abbrev oR (kn : Bool) (gr su : Int32) : ab_E := .inr (.inr (8, [.int (ab_bl kn), .int gr, .int su, .ref 51, .ref 52, .ref 53]))
abbrev oL (q : Nat) (pe ki kn : Nat) : ab_E := .inr (.inr (9, [.int (nI pe), .int (nI ki), .int (nI kn), .ref (q + 1), .ref (q + 2), .ref (q + 3), .ref (q + 4)]))
/-- the rows that tell with whom each changes, in the order in which they are gathered -/
def mt_go : Nat → Nat → (Nat → Nat) → List (Nat → Nat)
  | 0, _, t => [t]
  | f + 1, p, t => mt_go f (p + 1) t ++ (if t p = p then ((List.range 6).filter (fun q => p < q && t q == q)).flatMap (fun q => mt_go f (p + 1) (fun k => if k = p then t q else if k = q then t p else t k)) else [])
def mt_all : List Nat := (mt_go 5 0 (fun k => k)).map pk
theorem mt_len : mt_all.length = 76 := by decide +kernel
/-- the night's part of the class -/
def PXn (h : ab_H) (S : SS) : Prop := h 1 = oO (S_K S).isSome ∧ NX h 2 (S_N S) ∧ (match S_K S with | some K => NX h 11 K | none => NXq h 11)
def PXt (h : ab_H) (S : SS) : Prop := (∃ pl, h 20 = oT (S_tl S) pl) ∧ (∃ g : Nat → Int32, h 21 = .inl (100, g) ∧ ∀ k, k < S_tl S → g k = S_ts S k) ∧ ra_ h 22 6
def PXs (h : ab_H) (S : SS) : Prop := h 23 = oS ∧ h 24 = oSi ∧ (∀ s, s < 4 → ∃ g : Nat → Int32, h (25 + s) = .inl (24, g) ∧ ∀ k, k < 24 → g k = S_it S s k) ∧ (∃ g : Nat → Int32, h 29 = .inl (4, g) ∧ ∀ k, k < 4 → g k = S_la S k) ∧ (∃ g : Nat → Int32, h 30 = .inl (4, g) ∧ ∀ k, k < 4 → g k = S_sz S k)
def PXg (h : ab_H) : Prop := ra_ h 31 6 ∧ h 32 = oG ∧ ra_ h 33 6 ∧ ra_ h 34 64
def PXp (V : VV) (h : ab_H) (N : NS) : Prop := ∃ (kn : Bool) (mi me : Int32) (nv : Value) (bo go li sz : Int32) (g : Nat → Int32), h 35 = oP kn mi me nv bo go li ∧ (nv = .null ∨ nv = .ref 2) ∧ h 36 = .inl (720, g) ∧ ra_ h 37 720 ∧ ra_ h 38 720 ∧ ra_ h 39 720 ∧ ra_ h 40 720 ∧ h 41 = oH sz ∧ ra_ h 42 720 ∧ ra_ h 43 720 ∧ ra_ h 44 720 ∧ ra_ h 45 64 ∧ ra_ h 46 64 ∧ (kn = true → V.1 N mi me g)
def PXd (V : VV) (h : ab_H) (N : NS) : Prop := ∃ (kn : Bool) (da mi : Int32), h 47 = oD kn da mi ∧ rw_ h 48 76 (fun k => mt_all.getD k 0) ∧ ra_ h 49 76 ∧ (kn = true → V.2.1 N da mi)
def PXr (V : VV) (h : ab_H) (N : NS) : Prop := ∃ (kn : Bool) (gr su : Int32) (g : Nat → Int32), h 50 = oR kn gr su ∧ h 51 = .inl (6, g) ∧ ra_ h 52 6 ∧ ra_ h 53 6 ∧ (kn = true → V.2.2.1 N gr su g)
def PXl (V : VV) (m : Nat) (h : ab_H) : Prop := 88 ≤ m ∧ ra_ h 55 720 ∧ ∃ g : Nat → Option Nat, h 54 = .inr (.inl (true, 8, g)) ∧ ∀ k, k < 8 → ∀ q, g k = some q → 88 < q ∧ q + 4 ≤ m ∧ (∀ k2, k2 < 8 → ∀ q2, g k2 = some q2 → k2 ≠ k → q2 + 4 < q ∨ q + 4 < q2) ∧ ∃ (pe kn : Nat) (s t f w : Nat → Int32), h q = oL q pe k kn ∧ h (q + 1) = .inl (45, s) ∧ h (q + 2) = .inl (45, t) ∧ h (q + 3) = .inl (720, f) ∧ h (q + 4) = .inl (720, w) ∧ (pe ≠ 0 → V.2.2.2.1 pe k kn s t f w)
/-- THE CLASS' SIDE -/
def PX (V : VV) (m : Nat) (h : ab_H) (S : SS) : Prop := PXn h S ∧ PXt h S ∧ PXs h S ∧ PXg h ∧ PXp V h (S_N S) ∧ PXd V h (S_N S) ∧ PXr V h (S_N S) ∧ PXl V m h
abbrev oM (n ns ra se : Nat) (me mi tab ve la : Int32) (tl : Nat) (at_ wr : Int32) (fe : Nat) (kp : Bool) : ab_E := .inr (.inr (10, [.int (nI n), .ref 57, .ref 58, .ref 59, .ref 60, .ref 61, .ref 62, .ref 63, .int (nI ns), .ref 64, .ref 65, .int (nI ra), .int (nI se), .int me, .int mi, .ref 66, .ref 67, .int tab, .ref 68, .ref 69, .ref 70, .ref 71, .ref 72, .ref 73, .ref 74, .int ve, .int la, .ref 75, .ref 76, .int (nI tl), .int at_, .int wr, .ref 77, .ref 78, .int (nI fe), .ref 79, .ref 80, .ref 81, .ref 82, .ref 83, .ref 84, .int (ab_bl kp), .ref 85, .ref 86, .ref 87, .ref 88]))
/-- a row holds numbers up to a place -/
def rp_ (h : ab_H) (a n m : Nat) (f : Nat → Nat) : Prop := ∃ g : Nat → Int32, h a = .inl (n, g) ∧ ∀ k, k < m → g k = nI (f k)
/-- the reference's image -/
def MK (g : Nat → Int32) (K : NS) : Prop := (∀ k, k < 6 → g k = nI (N_x K k) ∧ g (6 + k) = nI (N_y K k) ∧ g (12 + k) = nI (N_mk K k)) ∧ (∀ k, k < N_n K → g (18 + k) = nI (N_t K k) ∧ g (60 + k) = nI (N_w K / 2 ^ k % 2) ∧ g (66 + k) = nI (N_ma K k)) ∧ (∀ k, k < 36 → g (24 + k) = nI (N_lk K k)) ∧ (∀ k, k < 4 → g (72 + k) = nI (N_ix K k) ∧ g (76 + k) = nI (N_iy K k)) ∧ (∀ k, k < 6 → g (80 + k) = nI (N_ff K k)) ∧ g 86 = nI (N_n K) ∧ g 87 = nI (N_ns K) ∧ g 88 = nI (N_ra K) ∧ g 89 = nI (N_se K) ∧ g 90 = N_me K ∧ g 91 = N_mi K ∧ g 92 = nI (N_fe K)
def PMn (h : ab_H) (N : NS) : Prop := rw_ h 57 6 (N_x N) ∧ rw_ h 58 6 (N_y N) ∧ rw_ h 59 6 (N_mk N) ∧ rp_ h 60 6 (N_n N) (N_t N) ∧ rw_ h 61 36 (N_lk N) ∧ rp_ h 62 6 (N_n N) (fun k => N_w N / 2 ^ k % 2) ∧ rp_ h 63 6 (N_n N) (N_ma N) ∧ rw_ h 64 4 (N_ix N) ∧ rw_ h 65 4 (N_iy N) ∧ rw_ h 79 6 (N_ff N)
def PMs (h : ab_H) (S : SS) : Prop := (∃ g : Nat → Int32, h 85 = .inl (4, g) ∧ ∀ k, k < 4 → g k = S_la S k) ∧ (∃ g : Nat → Int32, h 86 = .inl (4, g) ∧ ∀ k, k < 4 → g k = S_sz S k) ∧ (∃ g : Nat → Int32, h 87 = .inl (96, g) ∧ ∀ s k, s < 4 → k < 24 → g (24 * s + k) = S_it S s k) ∧ ra_ h 88 24
def PMr (h : ab_H) : Prop := ra_ h 66 6 ∧ ra_ h 67 6 ∧ ra_ h 68 4320 ∧ ra_ h 69 46656 ∧ ra_ h 70 720 ∧ ra_ h 71 720 ∧ ra_ h 72 6 ∧ ra_ h 75 6 ∧ ra_ h 77 6 ∧ ra_ h 78 36 ∧ ra_ h 80 720 ∧ ra_ h 81 720 ∧ ra_ h 82 6 ∧ ra_ h 83 6
/-- THE REFERENCE'S SIDE; its version is at most c -/
def PM (V : VV) (c : Nat) (h : ab_H) (S : SS) : Prop := (∃ (tab la at_ wr : Int32) (ve : Nat) (s t : Nat → Int32), h 56 = oM (N_n (S_N S)) (N_ns (S_N S)) (N_ra (S_N S)) (N_se (S_N S)) (N_me (S_N S)) (N_mi (S_N S)) tab (nI ve) la (S_tl S) at_ wr (N_fe (S_N S)) (S_K S).isSome ∧ ve ≤ c ∧ c < 1000 ∧ (wr = 0 ∨ wr = 1) ∧ h 73 = .inl (214560, s) ∧ h 74 = .inl (214560, t) ∧ (la = -1 ∨ ∃ j, j ≤ ve ∧ la = nI j ∧ (j = ve → V.2.2.2.2 (S_N S) s t))) ∧ PMn h (S_N S) ∧ (∃ g : Nat → Int32, h 76 = .inl (100, g) ∧ ∀ k, k < S_tl S → g k = S_ts S k) ∧ PMs h S ∧ PMr h ∧ (∃ g : Nat → Int32, h 84 = .inl (128, g) ∧ ∀ K, S_K S = some K → MK g K)
/-- what both sides' states always are -/
def S_ok (S : SS) : Prop := N_ok (S_N S) ∧ (∀ K, S_K S = some K → N_ok K) ∧ S_tl S ≤ 100 ∧ (∀ k, k < S_tl S → ∃ j, 32 ≤ j ∧ j ≤ 126 ∧ S_ts S k = nI j) ∧ (∀ k, k < 4 → (S_la S k = -1 ∨ S_la S k = nI 0 ∨ S_la S k = nI 1 ∨ S_la S k = nI 2) ∧ ∃ j, j ≤ 24 ∧ S_sz S k = nI j)
