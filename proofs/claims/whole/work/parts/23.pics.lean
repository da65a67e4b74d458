/-! pictures of the class' objects: night and kept, the tape, the sheets, what is reckoned -/
def ab_bl (b : Bool) : Int32 := if b then nI 1 else nI 0
theorem ab_bl_0 {b : Bool} : ab_bl b = 0 ↔ b = false := by cases b <;> decide
theorem ab_bl_nar (b : Bool) : narrow .boolean (.int (ab_bl b)) = .int (ab_bl b) := by cases b <;> decide
theorem ab_bl_fit (b : Bool) : fits .boolean (.int (ab_bl b)) = true := by cases b <;> decide
/-- night (at 2), kept (at 11): people, inns, feared; table, wont, rate, seats, meetings, miles; x, y, marks, likes, may, innX, innY, fears -/
def pN (h : ab_H) (a : Nat) (n ns fe : Nat) (tb wo ra se me mi : Int32) (fx fy fm fl fa ix iy ff : Nat → Int32) : Prop :=
  h a = .inr (.inr (1, [.int (nI n), .ref (a + 1), .ref (a + 2), .ref (a + 3), .ref (a + 4), .ref (a + 5), .int tb, .int wo, .int (nI ns), .ref (a + 6), .ref (a + 7), .int ra, .int se, .int me, .int mi, .int (nI fe), .ref (a + 8)])) ∧
  h (a + 1) = .inl (6, fx) ∧ h (a + 2) = .inl (6, fy) ∧ h (a + 3) = .inl (6, fm) ∧ h (a + 4) = .inl (36, fl) ∧ h (a + 5) = .inl (6, fa) ∧ h (a + 6) = .inl (4, ix) ∧ h (a + 7) = .inl (4, iy) ∧ h (a + 8) = .inl (6, ff)
/-- the tape (at 20): how many, the place, the signs, the draft -/
def pT (h : ab_H) (len : Nat) (pl : Int32) (fs fd : Nat → Int32) : Prop := h 20 = .inr (.inr (2, [.int (nI len), .int pl, .ref 21, .ref 22])) ∧ h 21 = .inl (100, fs) ∧ h 22 = .inl (6, fd)
/-- the sheets (at 23): rows, lanes, sizes -/
def pS (h : ab_H) (f0 f1 f2 f3 fl fz : Nat → Int32) : Prop := h 23 = .inr (.inr (3, [.ref 24, .ref 29, .ref 30])) ∧ h 24 = .inr (.inl (false, 4, fun j => if j < 4 then some (25 + j) else none)) ∧ h 25 = .inl (24, f0) ∧ h 26 = .inl (24, f1) ∧ h 27 = .inl (24, f2) ∧ h 28 = .inl (24, f3) ∧ h 29 = .inl (4, fl) ∧ h 30 = .inl (4, fz)
/-- the object itself (at 1) -/
def pO (h : ab_H) (kp : Bool) : Prop := h 1 = .inr (.inr (0, [.ref 2, .ref 11, .int (ab_bl kp), .ref 20, .ref 23, .ref 31, .ref 32, .ref 35, .ref 47, .ref 50, .ref 54, .ref 55]))
theorem ab_set_self (h : ab_H) (a : Nat) (e : ab_E) : ab_set h a e a = e := by simp [ab_set]
theorem ab_set_set (h : ab_H) (a : Nat) (e e2 : ab_E) : ab_set (ab_set h a e) a e2 = ab_set h a e2 := by
  funext j
  by_cases q : j = a <;> simp [ab_set, q]
theorem ab_set_ne {h : ab_H} {a b : Nat} {e : ab_E} (q : b ≠ a) : ab_set h a e b = h b := by simp [ab_set, q]
theorem ab_set_eq {h : ab_H} {a : Nat} {e : ab_E} (q : h a = e) : ab_set h a e = h := by
  funext j
  by_cases r : j = a
  · subst r; simp [ab_set, q]
  · simp [ab_set, r]
theorem ab_set_swap {h : ab_H} {a b : Nat} {e e2 : ab_E} (q : a ≠ b) : ab_set (ab_set h a e) b e2 = ab_set (ab_set h b e2) a e := by
  funext j
  by_cases r : j = a
  · subst r; simp [ab_set, q]
  · by_cases s : j = b
    · subst s; simp [ab_set, r]
    · simp [ab_set, r, s]
