/-! fields, rows, making, over the own world -/
section AWH
variable {Y : ab_Y} {X : ab_X} {l : Launch} {Q : Option Value → Nat → ab_H → Prop} {pc : Nat} {L : List (Option Value)} {st : List Value} {m : Nat} {h : ab_H} {us : Nat × Nat}
/-- a field's place: class ci of the list is (C, T, N), its words are in the tables, its field k is linked at i -/
def ab_fl (own : String) (i ci k : Nat) : Bool := match ab_cl[ci]? with
  | some (C, T, N) => decide (k < N) && ((u_ws C T N).all (fun w => decide (w ∈ lw_tbl) && goodWord w) && (decide (Cond.fieldLink own i C (T k).2.1 (T k).2.2.1 ∈ lw_tbl) && (goodWord (.fieldLink own i C (T k).2.1 (T k).2.2.1) && decide ((T k).1 = C))))
  | none => false
end AWH
