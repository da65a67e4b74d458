/-! WHAT THE CALLS DO, the plain ones: answer and new state -/
abbrev ir (x : Int32) (lo hi : Int) : Prop := lo ≤ x.toInt ∧ x.toInt ≤ hi
def cl (x : Int32) : Nat := x.toNatClampNeg
theorem cl_nI {n : Nat} (h : n < 2 ^ 31) : cl (nI n) = n := nI_clamp h
theorem cl_of {x : Int32} (h : 0 ≤ x.toInt) : x = nI (cl x) := by
  apply Int32.toInt_inj.mp
  have hr := fb_rng x
  have e : (cl x : Int) = x.toInt := by
    show ((x.toInt.toNat : Nat) : Int) = x.toInt
    omega
  rw [nI_toInt (by omega)]
  exact e.symm
theorem cl_int {x : Int32} (h : 0 ≤ x.toInt) : (cl x : Int) = x.toInt := by
  show ((x.toInt.toNat : Nat) : Int) = x.toInt
  omega
def ud {α : Type} (f : Nat → α) (k : Nat) (v : α) : Nat → α := fun j => if j = k then v else f j
theorem ud_s {α : Type} {f : Nat → α} {k : Nat} {v : α} : ud f k v k = v := by simp [ud]
theorem ud_n {α : Type} {f : Nat → α} {k j : Nat} {v : α} (h : j ≠ k) : ud f k v j = f j := by simp [ud, h]
/-- a bit set or taken away -/
def bt (w p : Nat) (b : Bool) : Nat := if b then (if w / 2 ^ p % 2 = 1 then w else w + 2 ^ p) else (if w / 2 ^ p % 2 = 1 then w - 2 ^ p else w)
def sp_person (S : SS) (x y v : Int32) : Int32 × SS :=
  if ir x 0 19 ∧ ir y 0 19 ∧ ir v 0 63 then
    (if N_n (S_N S) = 6 then (-3, S) else
      (nI (N_n (S_N S)), S_N_ S (N_n_ (N_x_ (N_y_ (N_mk_ (N_ma_ (S_N S) (fun k => if k < N_n (S_N S) then N_ma (S_N S) k + 2 ^ N_n (S_N S) else if k = N_n (S_N S) then 2 ^ (N_n (S_N S) + 1) - 1 else N_ma (S_N S) k)) (ud (N_mk (S_N S)) (N_n (S_N S)) (cl v))) (ud (N_y (S_N S)) (N_n (S_N S)) (cl y))) (ud (N_x (S_N S)) (N_n (S_N S)) (cl x))) (N_n (S_N S) + 1))))
  else (-1, S)
def sp_marks (S : SS) (c v : Int32) : Int32 × SS :=
  if ir c 0 (N_n (S_N S) - 1 : Int) ∧ ir v 0 63 then (nI (N_mk (S_N S) (cl c)), S_N_ S (N_mk_ (S_N S) (ud (N_mk (S_N S)) (cl c) (cl v)))) else (-1, S)
def sp_likes (S : SS) (p c v : Int32) : Int32 × SS :=
  if ir p 0 (N_n (S_N S) - 1 : Int) ∧ ir c 0 (N_n (S_N S) - 1 : Int) ∧ ir v 0 9 then (nI (N_lk (S_N S) (6 * cl p + cl c)), S_N_ S (N_lk_ (S_N S) (ud (N_lk (S_N S)) (6 * cl p + cl c) (cl v)))) else (-1, S)
def sp_wont (S : SS) (p : Int32) (b : Bool) : Int32 × SS :=
  if ir p 0 (N_n (S_N S) - 1 : Int) then (nI (N_w (S_N S) / 2 ^ cl p % 2), S_N_ S (N_w_ (S_N S) (bt (N_w (S_N S)) (cl p) b))) else (-1, S)
def sp_inn (S : SS) (x y : Int32) : Int32 × SS :=
  if ir x 0 19 ∧ ir y 0 19 then
    (if N_ns (S_N S) = 4 then (-3, S) else (nI (N_ns (S_N S)), S_N_ S (N_ns_ (N_ix_ (N_iy_ (S_N S) (ud (N_iy (S_N S)) (N_ns (S_N S)) (cl y))) (ud (N_ix (S_N S)) (N_ns (S_N S)) (cl x))) (N_ns (S_N S) + 1))))
  else (-1, S)
def sp_set (S : SS) (what v : Int32) : Int32 × SS :=
  if what = 0 ∧ ir v 1 9 then (nI (N_ra (S_N S)), S_N_ S (N_ra_ (S_N S) (cl v)))
  else if what = 1 ∧ ir v 2 4 then (nI (N_se (S_N S)), S_N_ S (N_se_ (S_N S) (cl v)))
  else (-1, S)
def sp_type (S : SS) (w : Int64) (n : Int32) : Int32 × SS :=
  if ir n 1 8 ∧ ∀ k, k < cl n → 32 ≤ (w.toBitVec.toNat / 256 ^ k % 256) ∧ (w.toBitVec.toNat / 256 ^ k % 256) ≤ 126 then
    (if 100 < S_tl S + cl n then (-3, S) else
      (nI (S_tl S + cl n), S_tl_ (S_ts_ S (fun k => if S_tl S ≤ k ∧ k < S_tl S + cl n then nI (w.toBitVec.toNat / 256 ^ (cl n - 1 - (k - S_tl S)) % 256) else S_ts S k)) (S_tl S + cl n)))
  else (-1, S)
def sp_forget (S : SS) : Int32 × SS := (nI (N_n (S_N S)), S_N_ S (N_ma_ (S_N S) (fun _ => 2 ^ N_n (S_N S) - 1)))
def sp_fear (S : SS) (a i j : Int32) : Int32 × SS :=
  if ir a 0 2 ∧ 0 ≤ i.toInt ∧ i.toInt < j.toInt ∧ j.toInt < N_n (S_N S) then
    (if N_fe (S_N S) = 6 then (-3, S) else (nI (N_fe (S_N S)), S_N_ S (N_fe_ (N_ff_ (S_N S) (ud (N_ff (S_N S)) (N_fe (S_N S)) (36 * cl a + 6 * cl i + cl j))) (N_fe (S_N S) + 1))))
  else (-1, S)
def sp_image (S : SS) : Int32 × SS := (1, S_K_ S (some (S_N S)))
def sp_restore (S : SS) : Int32 × SS := match S_K S with
  | some K => (1, S_N_ S K)
  | none => (-4, S)
def sp_sheet (S : SS) (s lane n : Int32) : Int32 × SS :=
  if ir s 0 3 ∧ ir lane 0 2 ∧ n.toInt ≤ 24 then
    (if n.toInt < 0 then (-14, S) else (n, S_la_ (S_sz_ (S_it_ S (ud (S_it S) (cl s) (fun _ => 0))) (ud (S_sz S) (cl s) n)) (ud (S_la S) (cl s) lane)))
  else (-1, S)
def sp_drop (S : SS) (s : Int32) : Int32 × SS :=
  if ir s 0 3 then (if S_la S (cl s) = -1 then (-11, S) else (S_sz S (cl s), S_la_ S (ud (S_la S) (cl s) (-1)))) else (-1, S)
/-- what is wrong with n items of a sheet from i on -/
def sp_fault (S : SS) (s lane i : Int32) (n : Nat) : Int32 :=
  if ir s 0 3 ∧ ir lane 0 2 then
    (if S_la S (cl s) = -1 then -11 else if ¬ S_la S (cl s) = lane then -12 else if i.toInt < 0 ∨ (S_sz S (cl s)).toInt < i.toInt + n then -13 else 0)
  else -1
def sp_item (S : SS) (s lane i v : Int32) : Int32 × SS :=
  if sp_fault S s lane i 1 < 0 then (sp_fault S s lane i 1, S)
  else (1, S_it_ S (ud (S_it S) (cl s) (ud (S_it S (cl s)) (cl i) (if lane = 0 then v.toInt8.toInt32 else if lane = 1 then v.toInt16.toInt32 else v))))
def sp_copy (S : SS) (a i b j n : Int32) : Int32 × SS :=
  if ir a 0 3 ∧ ir b 0 3 then
    (if S_la S (cl a) = -1 ∨ S_la S (cl b) = -1 then (-11, S) else if ¬ S_la S (cl a) = S_la S (cl b) then (-12, S)
     else if n.toInt < 0 ∨ i.toInt < 0 ∨ j.toInt < 0 ∨ (S_sz S (cl a)).toInt < i.toInt + n.toInt ∨ (S_sz S (cl b)).toInt < j.toInt + n.toInt then (-13, S)
     else (n, S_it_ S (ud (S_it S) (cl b) (fun k => if cl j ≤ k ∧ k < cl j + cl n then S_it S (cl a) (cl i + (k - cl j)) else S_it S (cl b) k))))
  else (-1, S)
