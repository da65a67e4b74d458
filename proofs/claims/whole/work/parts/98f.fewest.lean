/-- a pair that changes splits a ring, or joins two -/
def spC (t u : Nat → Nat) (a b c : Nat) : Bool := decide (a ||| b = c) && decide (a &&& b = 0) && (List.range 6).all (fun p => decide (rg u p = if a / 2 ^ p % 2 = 1 then a else if b / 2 ^ p % 2 = 1 then b else rg t p))
def spB (i j : Nat) (t : Nat → Nat) : Bool := if rg t i / 2 ^ j % 2 = 1 then spC t (sw t i j) (rg (sw t i j) i) (rg (sw t i j) j) (rg t i) else decide (rg (sw t i j) i / 2 ^ j % 2 = 1)
theorem sp_01 : pl6.all (spB 0 1) = true := by decide +kernel
theorem sp_02 : pl6.all (spB 0 2) = true := by decide +kernel
theorem sp_12 : pl6.all (spB 1 2) = true := by decide +kernel
theorem sp_03 : pl6.all (spB 0 3) = true := by decide +kernel
theorem sp_13 : pl6.all (spB 1 3) = true := by decide +kernel
theorem sp_23 : pl6.all (spB 2 3) = true := by decide +kernel
theorem sp_04 : pl6.all (spB 0 4) = true := by decide +kernel
theorem sp_14 : pl6.all (spB 1 4) = true := by decide +kernel
theorem sp_24 : pl6.all (spB 2 4) = true := by decide +kernel
theorem sp_34 : pl6.all (spB 3 4) = true := by decide +kernel
theorem sp_05 : pl6.all (spB 0 5) = true := by decide +kernel
theorem sp_15 : pl6.all (spB 1 5) = true := by decide +kernel
theorem sp_25 : pl6.all (spB 2 5) = true := by decide +kernel
theorem sp_35 : pl6.all (spB 3 5) = true := by decide +kernel
theorem sp_45 : pl6.all (spB 4 5) = true := by decide +kernel
theorem sp_ij {t : Nat → Nat} (ht : Pm t) {i j : Nat} (hij : i < j) (hj : j < 6) : spB i j t = true := by
  match j, hj, i, hij with
  | 1, _, 0, _ => exact ht.all sp_01
  | 2, _, 0, _ => exact ht.all sp_02
  | 2, _, 1, _ => exact ht.all sp_12
  | 3, _, 0, _ => exact ht.all sp_03
  | 3, _, 1, _ => exact ht.all sp_13
  | 3, _, 2, _ => exact ht.all sp_23
  | 4, _, 0, _ => exact ht.all sp_04
  | 4, _, 1, _ => exact ht.all sp_14
  | 4, _, 2, _ => exact ht.all sp_24
  | 4, _, 3, _ => exact ht.all sp_34
  | 5, _, 0, _ => exact ht.all sp_05
  | 5, _, 1, _ => exact ht.all sp_15
  | 5, _, 2, _ => exact ht.all sp_25
  | 5, _, 3, _ => exact ht.all sp_35
  | 5, _, 4, _ => exact ht.all sp_45
  | 0, _, i, h => exact absurd h (Nat.not_lt_zero _)
  | 1, _, i + 1, h => exact absurd h (by omega)
  | 2, _, i + 2, h => exact absurd h (by omega)
  | 3, _, i + 3, h => exact absurd h (by omega)
  | 4, _, i + 4, h => exact absurd h (by omega)
  | 5, _, i + 5, h => exact absurd h (by omega)
  | j + 6, h, _, _ => exact absurd h (by omega)
