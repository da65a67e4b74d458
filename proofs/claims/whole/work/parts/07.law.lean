/-! methods with one outcome; rows of rows; the law's entry -/
def ab_D (Y : ab_Y) (av : List Value) (m : Nat) (h : ab_H) (r : Option Value) (m2 : Nat) (h2 : ab_H) : Prop := ab_C Y av m h (fun r' m' h' => r' = r ∧ m' = m2 ∧ h' = h2)
section AWD
variable {Y Y' : ab_Y} {X : ab_X} {l : Launch} {Q : Option Value → Nat → ab_H → Prop} {pc : Nat} {L : List (Option Value)} {st : List Value} {m : Nat} {h : ab_H} {us : Nat × Nat}
theorem aw_invs1 {i n m2 : Nat} {h2 : ab_H} {r : Option Value} {As st0 : List Value} {nx : Nat} (hd0 : ab_dc Y pc (.invokestatic i) 3 nx) (hw : Cond.methodLink Y.1.cls i Y'.1 ∈ lw_tbl ∧ goodWord (.methodLink Y.1.cls i Y'.1) = true) (hy : ab_st Y' n) (hf : ab_fit Y Y' = true) (hC : ab_D Y' As m h r m2 h2) (hst : st0 = As.reverse ++ st) (hn : As.length = n) (hcat : (st.map fun v => v.category).sum ≤ 8) (hu : us.1 + Y'.2.2.2.2.cells ≤ Y.2.2.2.2.cells ∧ us.2 + Y'.2.2.2.2.slots ≤ Y.2.2.2.2.slots)
    (kk : ab_W Y X l Q nx L (r.toList ++ st) m2 h2 (us.1 + Y'.2.2.2.2.cells, us.2 + Y'.2.2.2.2.slots)) : ab_W Y X l Q pc L st0 m h us := by
  exact aw_invs hd0 hw hy hf hst hn hcat hu hC (fun r' m' h' q => by obtain ⟨rfl, rfl, rfl⟩ := q; exact kk)
theorem aw_invv1 {i n a ci m2 : Nat} {h2 : ab_H} {r : Option Value} {As st0 : List Value} {T : u_T} {N : Nat} {ty : Nat → FieldType} {fs : List Value} {nx : Nat} (hd0 : ab_dc Y pc (.invokevirtual i) 3 nx) (hw : Cond.methodLink Y.1.cls i Y'.1 ∈ lw_tbl ∧ goodWord (.methodLink Y.1.cls i Y'.1) = true) (hy : ab_vi Y' n) (hf : ab_fit Y Y' = true) (hc : ab_Cl ci Y'.1.cls T N ty) (he : h a = .inr (.inr (ci, fs))) (hC : ab_D Y' (.ref a :: As) m h r m2 h2) (hst : st0 = As.reverse ++ .ref a :: st) (hn : As.length = n) (hcat : (st.map fun v => v.category).sum ≤ 8) (hu : us.1 + Y'.2.2.2.2.cells ≤ Y.2.2.2.2.cells ∧ us.2 + Y'.2.2.2.2.slots ≤ Y.2.2.2.2.slots)
    (kk : ab_W Y X l Q nx L (r.toList ++ st) m2 h2 (us.1 + Y'.2.2.2.2.cells, us.2 + Y'.2.2.2.2.slots)) : ab_W Y X l Q pc L st0 m h us := by
  exact aw_invv hd0 hw hy hf hc he hst hn hcat hu hC (fun r' m' h' q => by obtain ⟨rfl, rfl, rfl⟩ := q; exact kk)
theorem aw_invi1 {i n a m2 : Nat} {h2 : ab_H} {r : Option Value} {As st0 : List Value} {nx : Nat} (hd0 : ab_dc Y pc (.invokespecial i) 3 nx) (hw : Cond.methodLink Y.1.cls i Y'.1 ∈ lw_tbl ∧ goodWord (.methodLink Y.1.cls i Y'.1) = true) (hy : ab_ii Y' n) (hf : ab_fit Y Y' = true) (hC : ab_D Y' (.ref a :: As) m h r m2 h2) (hst : st0 = As.reverse ++ .ref a :: st) (hn : As.length = n) (hcat : (st.map fun v => v.category).sum ≤ 8) (hu : us.1 + Y'.2.2.2.2.cells ≤ Y.2.2.2.2.cells ∧ us.2 + Y'.2.2.2.2.slots ≤ Y.2.2.2.2.slots)
    (kk : ab_W Y X l Q nx L (r.toList ++ st) m2 h2 (us.1 + Y'.2.2.2.2.cells, us.2 + Y'.2.2.2.2.slots)) : ab_W Y X l Q pc L st0 m h us := by
  exact aw_invi hd0 hw hy hf hst hn hcat hu hC (fun r' m' h' q => by obtain ⟨rfl, rfl, rfl⟩ := q; exact kk)
theorem aw_invn1 {i n a m2 : Nat} {h2 : ab_H} {r : Option Value} {As st0 : List Value} {host : String} {nx : Nat} (hd0 : ab_dc Y pc (.invokespecial i) 3 nx) (hw : (Y.1.cls, i, Y'.1, host) ∈ ab_nest) (hy : ab_ii Y' n) (hf : ab_fit Y Y' = true) (hC : ab_D Y' (.ref a :: As) m h r m2 h2) (hst : st0 = As.reverse ++ .ref a :: st) (hn : As.length = n) (hcat : (st.map fun v => v.category).sum ≤ 8) (hu : us.1 + Y'.2.2.2.2.cells ≤ Y.2.2.2.2.cells ∧ us.2 + Y'.2.2.2.2.slots ≤ Y.2.2.2.2.slots)
    (kk : ab_W Y X l Q nx L (r.toList ++ st) m2 h2 (us.1 + Y'.2.2.2.2.cells, us.2 + Y'.2.2.2.2.slots)) : ab_W Y X l Q pc L st0 m h us := by
  exact aw_invn hd0 hw hy hf hst hn hcat hu hC (fun r' m' h' q => by obtain ⟨rfl, rfl, rfl⟩ := q; exact kk)
/-- new int[n][k]: the outer row at m + 1, the inner ones behind it -/
def ab_grid (h : ab_H) (m n k : Nat) : Nat → ab_H
  | 0 => ab_set h (m + 1) (.inr (.inl (false, n, fun j => if j < n then some (m + 2 + j) else none)))
  | i + 1 => ab_set (ab_grid h m n k i) (m + 2 + i) (.inl (k, fun _ => 0))
theorem ab_outer (c : ClassId) (N h0 : Nat) : ∀ i : Nat, Jvm.Free.Multi.outerC c N h0 i = arrV c N (fun j => va_rf (if j < i then some (h0 + 1 + j) else none))
  | 0 => by
    show ({ cls := c, slots := Array.replicate N .null, vm := .none } : Cell) = _
    rw [arrV_new]
    refine congrArg (arrV c N) (funext fun j => ?_)
    simp [va_rf]
  | i + 1 => by
    show (Jvm.Free.Multi.outerC c N h0 i).setSlot i (.ref (h0 + 1 + i)) = _
    rw [ab_outer c N h0 i, arrV_store]
    refine congrArg (arrV c N) (funext fun j => ?_)
    by_cases e : j = i
    · subst e
      simp [updV, va_rf]
    · by_cases h : j < i
      · simp [updV, e, h, Nat.lt_succ_of_lt h]
      · simp [updV, e, h, show ¬ j < i + 1 by omega]
theorem ab_grid_at (h : ab_H) (m n k : Nat) : ∀ (i q : Nat), ab_grid h m n k i q = if q = m + 1 then .inr (.inl (false, n, fun j => if j < n then some (m + 2 + j) else none)) else if m + 1 < q ∧ q < m + 2 + i then .inl (k, fun _ => 0) else h q
  | 0, q => by
    unfold ab_grid ab_set
    by_cases e : q = m + 1
    · simp [e]
    · have : ¬ (m + 1 < q ∧ q < m + 2 + 0) := by omega
      simp only [e, if_false, this]
  | i + 1, q => by
    unfold ab_grid ab_set
    rw [ab_grid_at h m n k i q]
    by_cases e : q = m + 2 + i
    · have h1 : ¬ q = m + 1 := by omega
      have h2 : m + 1 < q ∧ q < m + 2 + (i + 1) := by omega
      rw [if_pos e, if_neg h1, if_pos h2]
    · rw [if_neg e]
      by_cases h1 : q = m + 1
      · rw [if_pos h1, if_pos h1]
      · rw [if_neg h1, if_neg h1]
        by_cases h2 : m + 1 < q ∧ q < m + 2 + i
        · rw [if_pos h2, if_pos (by omega)]
        · rw [if_neg h2, if_neg (by omega)]
theorem aw_multi {i : Nat} {n k : Int32} {N K : Nat} {nx : Nat} (hd0 : ab_dc Y pc (.multianewarray i 2) 4 nx) (hw : Cond.classLink Y.1.cls i "[[I" ∈ lw_tbl ∧ goodWord (.classLink Y.1.cls i "[[I") = true) (hn : ¬ n < 0) (hk : ¬ k < 0) (hN : n.toNatClampNeg = N) (hK0 : k.toNatClampNeg = K) (hb : N ≤ 1000 ∧ K ≤ 1000) (hu : us.1 + 1 + N ≤ Y.2.2.2.2.cells ∧ us.2 + N + N * K ≤ Y.2.2.2.2.slots)
    (kk : ab_W Y X l Q nx L (.ref (m + 1) :: st) (m + 1 + N) (ab_grid h m N K N) (us.1 + 1 + N, us.2 + N + N * K)) : ab_W Y X l Q pc L (.int k :: .int n :: st) m h us := by
  obtain ⟨hd, rfl⟩ := hd0
  intro G p e s mi args below meth c H locs ls Z C hL hP hS h1 h2 hF
  subst hN
  subst hK0
  intro T hT Xs
  obtain ⟨vm₁, cA, comp, -, fA, fC, hO, -, X', step⟩ := Xs.multianewarray2F (ty := .int) C.1 C.2.2.2.1 (ab_word C hw) C.2.2.2.2.2.1.2.2.1 (ab_word C ab_good_i) (g := F0 mi pc ls (.int k :: .int n :: st.map (ab_v G))) rfl (by rw [C.2.1]; exact hd) rfl hn hk (by omega) (by show k.toNatClampNeg * 4 ≤ _; omega) (by omega) rfl rfl (by have := hu.1; omega) (by have := hu.2; omega)
  have hcI : s.vm.findClass ("[" ++ (FieldType.int).toString) = some G.2.1 := (C.2.2.2.2.2.1.1.2 0 _ rfl).2
  have hcII : s.vm.findClass ("[" ++ (FieldType.array .int).toString) = some G.2.2.2.1 := (C.2.2.2.2.2.1.1.2 2 _ rfl).2
  have ec : cA = G.2.2.2.1 := Option.some.inj (fA.symm.trans hcII)
  have ec2 : comp = G.2.1 := Option.some.inj (fC.symm.trans hcI)
  subst ec
  subst ec2
  generalize hFi : Jvm.Free.Multi.fill (T.setVm vm₁) G.2.2.2.1 G.2.1 n.toNatClampNeg k.toNatClampNeg (defaultValue .int) n.toNatClampNeg = F at X' step
  have hTh : (T.setVm vm₁).heap = H := hT
  obtain ⟨f1, f2, -, -⟩ := Jvm.Free.Multi.fill_facts (T.setVm vm₁) G.2.2.2.1 G.2.1 n.toNatClampNeg k.toNatClampNeg (defaultValue .int) n.toNatClampNeg
  rw [hFi, hTh] at f1 f2
  have hold : ∀ x : Nat, x < H.size → F.heap[x]? = H[x]? := fun x hx => by
    have := Jvm.Free.Multi.fill_old (T.setVm vm₁) G.2.2.2.1 G.2.1 n.toNatClampNeg k.toNatClampNeg (defaultValue .int) (a := x) (by rw [hTh]; exact hx) n.toNatClampNeg
    rw [hFi, hTh] at this
    exact this
  have hrow : ∀ j : Nat, j < n.toNatClampNeg → F.heap[H.size + 1 + j]? = some (vp_cell G.2.1 (k.toNatClampNeg, .inl (fun _ => 0))) := fun j hj => by
    have := Jvm.Free.Multi.fill_inner (T.setVm vm₁) G.2.2.2.1 G.2.1 n.toNatClampNeg k.toNatClampNeg (defaultValue .int) n.toNatClampNeg j hj
    rw [hFi, hTh] at this
    rw [this, vp_cell_i, ← arrV_new]
    rfl
  rw [ab_outer] at f2
  have hsz : H.size = ab_N G + m := hP.2.1
  have hP1 : ab_P G (m + 1 + n.toNatClampNeg) (ab_grid h m n.toNatClampNeg k.toNatClampNeg n.toNatClampNeg) F.heap := by
    refine ⟨fun j q hq => ?_, by rw [f1, hsz]; omega, fun j hj => ?_⟩
    · obtain ⟨hj, rfl⟩ := ab_ws_of hq
      rw [ab_grid_at]
      by_cases e1 : j + 1 = m + 1
      · rw [if_pos e1]
        show F.heap[ab_N G + j]? = some (vp_cell _ _)
        rw [show ab_N G + j = H.size by omega, f2, vp_cell_q]
        refine congrArg (fun f => some (arrV _ _ f)) (funext fun x => ?_)
        by_cases hx : x < n.toNatClampNeg
        · simp only [hx, if_true, Option.map_some, va_rf]
          rw [show m + 2 + x = (m + 1 + x) + 1 by omega]
          have e7 : H.size + 1 + x = ab_N G + (m + 1 + x) := by rw [hsz]; omega
          exact congrArg Value.ref e7
        · simp [hx, va_rf]
      · rw [if_neg e1]
        by_cases e2 : m + 1 < j + 1 ∧ j + 1 < m + 2 + n.toNatClampNeg
        · rw [if_pos e2]
          show F.heap[ab_N G + j]? = some (vp_cell _ _)
          rw [show ab_N G + j = H.size + 1 + (j - m - 1) by omega]
          exact hrow _ (by omega)
        · rw [if_neg e2]
          have hjm : j < m := by omega
          refine (hP.1 j _ (ab_ws_at G h hjm)).kept ?_
          exact hold _ (by show ab_N G + j < _; omega)
    · rw [ab_grid_at, if_neg (by omega), if_neg (by omega)]
      exact hP.2.2 j (by omega)
  obtain ⟨t, a1, b1⟩ := kk G p e s mi args below meth c F.heap locs ls Z C hL hP1 ⟨by rw [f1]; have := hS.1; omega, fun x d1 d2 => (hold x (Nat.lt_of_lt_of_le d1 hS.1)).trans (hS.2.1 x d1 d2), hS.2.2⟩ hu.1 hu.2 hF F rfl X'
  refine ⟨t, step t ?_, b1⟩
  have e9 : T.heap.size = ab_ad G (m + 1) := by rw [hT]; exact hsz
  rw [e9]
  exact a1
end AWD
theorem ab_cl_ok : ∀ (c : Nat) (q : vw_C), ab_cl[c]? = some q → (∀ w ∈ u_ws q.1 q.2.1 q.2.2, w ∈ lw_tbl) ∧ ∃ n, Cond.instantiable q.1 n ∈ lw_tbl := by
  intro c q hq
  have hc : c < 11 := (List.getElem?_eq_some_iff.mp hq).1
  have h := List.mem_of_getElem? hq
  simp only [ab_cl, List.mem_cons, List.not_mem_nil, or_false] at h
  rcases h with rfl | rfl | rfl | rfl | rfl | rfl | rfl | rfl | rfl | rfl | rfl
  · exact ⟨fun w hw => (in_Coat w hw).1, 12, by decide +kernel⟩
  · exact ⟨fun w hw => (in_Night w hw).1, 17, by decide +kernel⟩
  · exact ⟨fun w hw => (in_Tape w hw).1, 4, by decide +kernel⟩
  · exact ⟨fun w hw => (in_Sheets w hw).1, 3, by decide +kernel⟩
  · exact ⟨fun w hw => (in_Givings w hw).1, 2, by decide +kernel⟩
  · exact ⟨fun w hw => (in_Planner w hw).1, 15, by decide +kernel⟩
  · exact ⟨fun w hw => (in_Heap w hw).1, 4, by decide +kernel⟩
  · exact ⟨fun w hw => (in_Days w hw).1, 5, by decide +kernel⟩
  · exact ⟨fun w hw => (in_Rail w hw).1, 6, by decide +kernel⟩
  · exact ⟨fun w hw => (in_Slips w hw).1, 7, by decide +kernel⟩
  · exact ⟨fun w hw => (in_Model w hw).1, 46, by decide +kernel⟩
theorem cl_Coat : ab_Cl 0 "CoatRings" tf_Coat 12 ty_Coat := ⟨rfl, fun w hw => ab_gw_in (in_Coat w hw), tk_Coat, nm_Coat⟩
theorem cl_Night : ab_Cl 1 "CoatRings$Night" tf_Night 17 ty_Night := ⟨rfl, fun w hw => ab_gw_in (in_Night w hw), tk_Night, nm_Night⟩
theorem cl_Tape : ab_Cl 2 "CoatRings$Tape" tf_Tape 4 ty_Tape := ⟨rfl, fun w hw => ab_gw_in (in_Tape w hw), tk_Tape, nm_Tape⟩
theorem cl_Sheets : ab_Cl 3 "CoatRings$Sheets" tf_Sheets 3 ty_Sheets := ⟨rfl, fun w hw => ab_gw_in (in_Sheets w hw), tk_Sheets, nm_Sheets⟩
theorem cl_Givings : ab_Cl 4 "CoatRings$Givings" tf_Givings 2 ty_Givings := ⟨rfl, fun w hw => ab_gw_in (in_Givings w hw), tk_Givings, nm_Givings⟩
theorem cl_Planner : ab_Cl 5 "CoatRings$Planner" tf_Planner 15 ty_Planner := ⟨rfl, fun w hw => ab_gw_in (in_Planner w hw), tk_Planner, nm_Planner⟩
theorem cl_Heap : ab_Cl 6 "CoatRings$Heap" tf_Heap 4 ty_Heap := ⟨rfl, fun w hw => ab_gw_in (in_Heap w hw), tk_Heap, nm_Heap⟩
theorem cl_Days : ab_Cl 7 "CoatRings$Days" tf_Days 5 ty_Days := ⟨rfl, fun w hw => ab_gw_in (in_Days w hw), tk_Days, nm_Days⟩
theorem cl_Rail : ab_Cl 8 "CoatRings$Rail" tf_Rail 6 ty_Rail := ⟨rfl, fun w hw => ab_gw_in (in_Rail w hw), tk_Rail, nm_Rail⟩
theorem cl_Slips : ab_Cl 9 "CoatRings$Slips" tf_Slips 7 ty_Slips := ⟨rfl, fun w hw => ab_gw_in (in_Slips w hw), tk_Slips, nm_Slips⟩
theorem cl_Model : ab_Cl 10 "CoatRingsModel" tf_Model 46 ty_Model := ⟨rfl, fun w hw => ab_gw_in (in_Model w hw), tk_Model, nm_Model⟩
/-- the law, as a method of the own world -/
abbrev Y_law : ab_Y := (⟨R_law, "law", "([I)Z"⟩, code, 4, ret, room_1)
theorem ab_law {p : Program} {e : Env} {s : State} {m : MethodId} {below : List Frame} {meth : Method} {c : Code} (l : Launch) {b L : Nat} {xs : Nat → Int32} (C0 : lw_At p s m meth c b L xs)
    (hb : ab_W Y_law (some (L, xs)) l (fun r _ _ => r = some (.int 1)) 0 [some (.ref 0), none, none, none] [] 0 (fun _ => ab_dead) (0, 0)) :
    W p l e room_1 s m #[Value.ref b] below meth c s.heap [] 0 0 (lw_Z below #[Value.ref b] s) (entryFrame m ([Value.ref b] : List Value).toArray 4) := by
  obtain ⟨hx, hbc, hr, hml, hown, hts, hX, hbl, hlocks, hgv⟩ := C0
  have key : ∀ k : Nat, ∃ x : ClassId × (Nat → Nat), ∀ q, ab_cl[k]? = some q → u_Kn s q.1 q.2.1 q.2.2 x.1 x.2 := by
    intro k
    cases hq : ab_cl[k]? with
    | none => exact ⟨(0, fun _ => 0), fun q h => by cases h⟩
    | some q =>
      obtain ⟨h1, n, h2⟩ := ab_cl_ok k q hq
      obtain ⟨cC, iS, hK⟩ := u_known hts h1 (hts _ h2)
      exact ⟨(cC, iS), fun q' h' => by cases h'; exact hK⟩
  obtain ⟨f, hf⟩ := Classical.axiomOfChoice key
  obtain ⟨cI, kI, compI, i1, i2, i3⟩ : ∃ (cI : ClassId) (kI : Class) (compI : ClassId), s.vm.findClass ("[" ++ (FieldType.int).toString) = some cI ∧ s.vm.classes[cI]? = some kI ∧ kI.kind = .array compI .int := by
    obtain ⟨cI, kI, comp, g1, g2, g3⟩ := Cond.arrayClass_spec (hts (.arrayClass .int) (by decide +kernel))
    exact ⟨cI, kI, comp, g1, g2, g3⟩
  have hAO : (Cond.arrayOver (.object "CoatRings$Slips")).before #[Value.ref b] s = true := hts _ (by decide +kernel)
  have hAA : (Cond.arrayOver (.array .int)).before #[Value.ref b] s = true := hts _ (by decide +kernel)
  obtain ⟨compS, cS, kS, s1, s2, s3, s4, s5⟩ := Cond.arrayOver_spec hAO
  obtain ⟨compA, cA, kA, a1, a2, a3, a4, a5⟩ := Jvm.Stand.arrayOver_specB hAA
  let G : ab_G := ((fun k => (f k).1, fun k => (f k).2), cI, cS, cA, b, s.heap.size)
  have hK : ab_K G s := by
    refine ⟨⟨fun k q hq => hf k q hq, fun k q hq => ?_⟩, va_AO.of hAO, hAA, fun q hq => va_Nw.of rfl (hts _ (List.mem_append_right _ (ab_nest_in q hq)))⟩
    match k, hq with
    | 0, hq =>
      cases hq
      exact ⟨fun N z => ⟨(fun k h => by cases h), kI, i2, compI, i3⟩, i1⟩
    | 1, hq =>
      cases hq
      exact ⟨fun N z => ⟨(fun k h => by cases h), kS, s3, compS, s4⟩, kS, compS, s3, s4, s1, s5⟩
    | 2, hq =>
      cases hq
      exact ⟨fun N z => ⟨(fun k h => by cases h), kA, a3, compA, a4⟩, a5⟩
    | k + 3, hq => cases hq
  rw [lg_entry_eq]
  have hl := lv_entry ([Value.ref b]) (n := 4) (Nat.le_of_ble_eq_true rfl)
  generalize (lg_sl [Value.ref b] ++ List.replicate (4 - (lg_sl [Value.ref b]).length) Slot.unset).toArray = ls at hl ⊢
  refine hb G p e s m _ below meth c s.heap [] ls _ ⟨hx, hbc, hml, hown, fun w hw => hts w (List.mem_filter.mp hw).1, hK, hr, hlocks, fun q => absurd q (by decide), Nat.le_refl _, hX, hbl, hbl⟩ ⟨hl.1, rfl, hl.2.1, fun i v hi => ?_⟩ ⟨fun k q hq => by have := (ab_ws_of hq).1; omega, rfl, fun _ _ => rfl⟩ va_S.rf (Nat.zero_le _) (Nat.zero_le _) ?_
  · match i, hi with
    | 0, hi =>
      cases hi
      exact hl.2.2 (0, .ref b) List.mem_cons_self
    | 1, hi => cases hi
    | 2, hi => cases hi
    | 3, hi => cases hi
    | i + 4, hi => cases hi
  · intro r m2 h2 us H locs pc ls hq u1 u2 hP2 hS2 hret
    subst hq
    refine va_forget (fun q hq => hS2.2.2 q hq) ?_
    refine W.widen u1 u2 ?_
    exact lw_ret hx hbc hr hlocks hret.1
