/-! shorter rows for what comes most -/
section AWM
variable {Y Y' : ab_Y} {X : ab_X} {l : Launch} {Q : Option Value → Nat → ab_H → Prop} {pc : Nat} {L : List (Option Value)} {st : List Value} {m : Nat} {h : ab_H} {us : Nat × Nat}
theorem aw_topi {x : Int32} (k : ∀ y : Int32, y = x → ab_W Y X l Q pc L (.int y :: st) m h us) : ab_W Y X l Q pc L (.int x :: st) m h us := k x rfl
theorem aw_topl {x : Int64} (k : ∀ y : Int64, y = x → ab_W Y X l Q pc L (.long y :: st) m h us) : ab_W Y X l Q pc L (.long x :: st) m h us := k x rfl
/-- the top is known to be another number -/
theorem aw_is {x y : Int32} (e : x = y) (k : ab_W Y X l Q pc L (.int y :: st) m h us) : ab_W Y X l Q pc L (.int x :: st) m h us := e ▸ k
theorem aw_ialoadN {nx a n j : Nat} {f : Nat → Int32} (hd0 : ab_dc Y pc (.iaload) 1 nx) (he : h a = .inl (n, f)) (hj : j < n) (hn : n < 2 ^ 31) (kk : ab_W Y X l Q nx L (.int (f j) :: st) m h us) : ab_W Y X l Q pc L (.int (nI j) :: .ref a :: st) m h us := by
  refine aw_iaload hd0 he (vp_in_nI hj hn) ?_
  rw [nI_clamp (Nat.lt_trans hj hn)]
  exact kk
theorem aw_iastoreN {nx a n j : Nat} {f : Nat → Int32} {x : Int32} (hd0 : ab_dc Y pc (.iastore) 1 nx) (he : h a = .inl (n, f)) (hj : j < n) (hn : n < 2 ^ 31) (kk : ab_W Y X l Q nx L st m (ab_set h a (.inl (n, upd f j x))) us) : ab_W Y X l Q pc L (.int x :: .int (nI j) :: .ref a :: st) m h us := by
  refine aw_iastore hd0 he (vp_in_nI hj hn) ?_
  rw [nI_clamp (Nat.lt_trans hj hn)]
  exact kk
theorem aw_u0 {nx mc ms : Nat} (hz : mc = 0 ∧ ms = 0) {st0 : List Value} {m2 : Nat} {h2 : ab_H} (k : ab_W Y X l Q nx L st0 m2 h2 us) : ab_W Y X l Q nx L st0 m2 h2 (us.1 + mc, us.2 + ms) := by
  obtain ⟨rfl, rfl⟩ := hz
  exact k
theorem aw_pre (k : us.1 ≤ Y.2.2.2.2.cells → us.2 ≤ Y.2.2.2.2.slots → ab_W Y X l Q pc L st m h us) : ab_W Y X l Q pc L st m h us :=
  fun G p e s mi args below meth c H locs ls Z C hL hP hS h1 h2 hF => k h1 h2 G p e s mi args below meth c H locs ls Z C hL hP hS h1 h2 hF
/-- a static call that makes nothing: any outcome -/
theorem aw_s0 {nx i n : Nat} {Q' : Option Value → Nat → ab_H → Prop} {As st0 : List Value} (hd0 : ab_dc Y pc (.invokestatic i) 3 nx) (hw : Cond.methodLink Y.1.cls i Y'.1 ∈ lw_tbl ∧ goodWord (.methodLink Y.1.cls i Y'.1) = true) (hy : ab_st Y' n) (hf : ab_fit Y Y' = true) (hz : Y'.2.2.2.2.cells = 0 ∧ Y'.2.2.2.2.slots = 0) (hC : ab_C Y' As m h Q') (hst : st0 = As.reverse ++ st) (hn : As.length = n) (hcat : (st.map fun v => v.category).sum ≤ 8)
    (kk : ∀ (r : Option Value) (m2 : Nat) (h2 : ab_H), Q' r m2 h2 → ab_W Y X l Q nx L (r.toList ++ st) m2 h2 us) : ab_W Y X l Q pc L st0 m h us :=
  aw_pre fun g1 g2 => aw_invs hd0 hw hy hf hst hn hcat ⟨by rw [hz.1]; exact g1, by rw [hz.2]; exact g2⟩ hC (fun r m2 h2 q => aw_u0 hz (kk r m2 h2 q))
theorem aw_s0i {nx i n : Nat} {m2 : Nat} {h2 : ab_H} {v : Int32} {As st0 : List Value} (hd0 : ab_dc Y pc (.invokestatic i) 3 nx) (hw : Cond.methodLink Y.1.cls i Y'.1 ∈ lw_tbl ∧ goodWord (.methodLink Y.1.cls i Y'.1) = true) (hy : ab_st Y' n) (hf : ab_fit Y Y' = true) (hz : Y'.2.2.2.2.cells = 0 ∧ Y'.2.2.2.2.slots = 0) (hC : ab_D Y' As m h (some (.int v)) m2 h2) (hst : st0 = As.reverse ++ st) (hn : As.length = n) (hcat : (st.map fun v => v.category).sum ≤ 8)
    (kk : ab_W Y X l Q nx L (.int v :: st) m2 h2 us) : ab_W Y X l Q pc L st0 m h us :=
  aw_s0 hd0 hw hy hf hz hC hst hn hcat (fun r m2 h2 q => by obtain ⟨rfl, rfl, rfl⟩ := q; exact kk)
theorem aw_s0v {nx i n : Nat} {m2 : Nat} {h2 : ab_H} {As st0 : List Value} (hd0 : ab_dc Y pc (.invokestatic i) 3 nx) (hw : Cond.methodLink Y.1.cls i Y'.1 ∈ lw_tbl ∧ goodWord (.methodLink Y.1.cls i Y'.1) = true) (hy : ab_st Y' n) (hf : ab_fit Y Y' = true) (hz : Y'.2.2.2.2.cells = 0 ∧ Y'.2.2.2.2.slots = 0) (hC : ab_D Y' As m h none m2 h2) (hst : st0 = As.reverse ++ st) (hn : As.length = n) (hcat : (st.map fun v => v.category).sum ≤ 8)
    (kk : ab_W Y X l Q nx L st m2 h2 us) : ab_W Y X l Q pc L st0 m h us :=
  aw_s0 hd0 hw hy hf hz hC hst hn hcat (fun r m2 h2 q => by obtain ⟨rfl, rfl, rfl⟩ := q; exact kk)
theorem aw_v0 {nx i n a ci : Nat} {Q' : Option Value → Nat → ab_H → Prop} {As st0 : List Value} {T : u_T} {N : Nat} {ty : Nat → FieldType} {fs : List Value} (hd0 : ab_dc Y pc (.invokevirtual i) 3 nx) (hw : Cond.methodLink Y.1.cls i Y'.1 ∈ lw_tbl ∧ goodWord (.methodLink Y.1.cls i Y'.1) = true) (hy : ab_vi Y' n) (hf : ab_fit Y Y' = true) (hz : Y'.2.2.2.2.cells = 0 ∧ Y'.2.2.2.2.slots = 0) (hc : ab_Cl ci Y'.1.cls T N ty) (he : h a = .inr (.inr (ci, fs))) (hC : ab_C Y' (.ref a :: As) m h Q') (hst : st0 = As.reverse ++ .ref a :: st) (hn : As.length = n) (hcat : (st.map fun v => v.category).sum ≤ 8)
    (kk : ∀ (r : Option Value) (m2 : Nat) (h2 : ab_H), Q' r m2 h2 → ab_W Y X l Q nx L (r.toList ++ st) m2 h2 us) : ab_W Y X l Q pc L st0 m h us :=
  aw_pre fun g1 g2 => aw_invv hd0 hw hy hf hc he hst hn hcat ⟨by rw [hz.1]; exact g1, by rw [hz.2]; exact g2⟩ hC (fun r m2 h2 q => aw_u0 hz (kk r m2 h2 q))
theorem aw_v0i {nx i n a ci m2 : Nat} {h2 : ab_H} {v : Int32} {As st0 : List Value} {T : u_T} {N : Nat} {ty : Nat → FieldType} {fs : List Value} (hd0 : ab_dc Y pc (.invokevirtual i) 3 nx) (hw : Cond.methodLink Y.1.cls i Y'.1 ∈ lw_tbl ∧ goodWord (.methodLink Y.1.cls i Y'.1) = true) (hy : ab_vi Y' n) (hf : ab_fit Y Y' = true) (hz : Y'.2.2.2.2.cells = 0 ∧ Y'.2.2.2.2.slots = 0) (hc : ab_Cl ci Y'.1.cls T N ty) (he : h a = .inr (.inr (ci, fs))) (hC : ab_D Y' (.ref a :: As) m h (some (.int v)) m2 h2) (hst : st0 = As.reverse ++ .ref a :: st) (hn : As.length = n) (hcat : (st.map fun v => v.category).sum ≤ 8)
    (kk : ab_W Y X l Q nx L (.int v :: st) m2 h2 us) : ab_W Y X l Q pc L st0 m h us :=
  aw_v0 hd0 hw hy hf hz hc he hC hst hn hcat (fun r m2 h2 q => by obtain ⟨rfl, rfl, rfl⟩ := q; exact kk)
theorem aw_v0v {nx i n a ci m2 : Nat} {h2 : ab_H} {As st0 : List Value} {T : u_T} {N : Nat} {ty : Nat → FieldType} {fs : List Value} (hd0 : ab_dc Y pc (.invokevirtual i) 3 nx) (hw : Cond.methodLink Y.1.cls i Y'.1 ∈ lw_tbl ∧ goodWord (.methodLink Y.1.cls i Y'.1) = true) (hy : ab_vi Y' n) (hf : ab_fit Y Y' = true) (hz : Y'.2.2.2.2.cells = 0 ∧ Y'.2.2.2.2.slots = 0) (hc : ab_Cl ci Y'.1.cls T N ty) (he : h a = .inr (.inr (ci, fs))) (hC : ab_D Y' (.ref a :: As) m h none m2 h2) (hst : st0 = As.reverse ++ .ref a :: st) (hn : As.length = n) (hcat : (st.map fun v => v.category).sum ≤ 8)
    (kk : ab_W Y X l Q nx L st m2 h2 us) : ab_W Y X l Q pc L st0 m h us :=
  aw_v0 hd0 hw hy hf hz hc he hC hst hn hcat (fun r m2 h2 q => by obtain ⟨rfl, rfl, rfl⟩ := q; exact kk)
end AWM
