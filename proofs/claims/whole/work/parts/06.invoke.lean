/-! calls of own methods, rows of rows, contracts -/
/-- a method that may be called: its code stands in the tables, its class is initialised, its parameters -/
def ab_ok (Y : ab_Y) (n : Nat) : Prop := (Cond.code Y.1 Y.2.1 Y.2.2.1 Y.2.2.2.1 ∈ lw_tbl ∧ goodWord (.code Y.1 Y.2.1 Y.2.2.1 Y.2.2.2.1) = true) ∧ (Cond.initialized Y.1.cls ∈ lw_tbl ∧ goodWord (.initialized Y.1.cls) = true) ∧ (Y.1.cls ≠ "java/lang/invoke/MethodHandle" ∧ Y.1.cls ≠ "java/lang/invoke/VarHandle" ∧ (parseMethodDescriptor Y.1.desc).map (fun d => d.parameters.length) = some n)
def ab_st (Y : ab_Y) (n : Nat) : Prop := ab_ok Y n ∧ (Cond.static Y.1 ∈ lw_tbl ∧ goodWord (.static Y.1) = true)
def ab_vi (Y : ab_Y) (n : Nat) : Prop := ab_ok Y n ∧ (Cond.instanceMethod Y.1 ∈ lw_tbl ∧ goodWord (.instanceMethod Y.1) = true) ∧ (Cond.selects Y.1.cls Y.1 Y.1 ∈ lw_tbl ∧ goodWord (.selects Y.1.cls Y.1 Y.1) = true)
def ab_ii (Y : ab_Y) (n : Nat) : Prop := ab_ok Y n ∧ (Cond.instanceMethod Y.1 ∈ lw_tbl ∧ goodWord (.instanceMethod Y.1) = true) ∧ Y.1.name = "<init>" ∧ Y.2.2.2.1 = none
/-- the callee's room fits the caller's -/
def ab_fit (Y Y' : ab_Y) : Bool := decide (Y'.2.2.2.2.frames + 1 ≤ Y.2.2.2.2.frames) && decide (8 + (Y'.2.2.1 + 11) + Y'.2.2.2.2.locals ≤ Y.2.2.2.2.locals)
theorem ab_fit_iff {Y Y' : ab_Y} (h : ab_fit Y Y' = true) : Y'.2.2.2.2.frames + 1 ≤ Y.2.2.2.2.frames ∧ 8 + (Y'.2.2.1 + 11) + Y'.2.2.2.2.locals ≤ Y.2.2.2.2.locals := by
  simpa [ab_fit] using h
theorem ab_goodIn {Y' : ab_Y} {n : Nat} (hk : ab_ok Y' n) : GoodIn ab_gw (ab_w Y') := by
  intro w hw
  have h1 : w ∈ ab_gw := by
    rcases List.mem_cons.mp hw with rfl | h
    · exact ab_gw_in hk.1
    · exact h
  exact ⟨h1, good_of_word (List.mem_filter.mp h1).2⟩
def ab_Pc (G : ab_G) (av : List Value) (m : Nat) (h : ab_H) : Array Value → State → Prop := va_Pc (av.map (ab_v G)) (fun U => ab_K G U ∧ ab_P G m h U.heap)
def ab_Qc (G : ab_G) (Q : Option Value → Nat → ab_H → Prop) : Array Value → State → Outcome → State → Prop := fun _ st o t => (∃ (r : Option Value) (m2 : Nat) (h2 : ab_H), o = .returned (r.map (ab_v G)) ∧ Q r m2 h2 ∧ ab_P G m2 h2 t.heap) ∧ va_F (ab_A G) st t
theorem ab_blind (G : ab_G) (av : List Value) (m : Nat) (h : ab_H) : FrameBlind (ab_Pc G av m h) := fun a U g mk q => ⟨q.1, ab_K.same (u := U) rfl q.2.1, q.2.2⟩
section AWI
variable {Y Y' : ab_Y} {X : ab_X} {l : Launch} {Q Q' : Option Value → Nat → ab_H → Prop} {pc : Nat} {L : List (Option Value)} {st : List Value} {m : Nat} {h : ab_H} {us : Nat × Nat}
/-- behind a call -/
theorem ab_behind {G : ab_G} {p : Program} {e : Env} {s : State} {mi : MethodId} {args : Array Value} {below : List Frame} {meth : Method} {c : Code} {H : Heap} {locs : List Loc} {ls : Array Slot} {Z : State → Prop} {st0 : List Value} {a : Array Value}
    (hr : va_Run p l e Y.2.2.2.2 s mi args below meth c H locs us.1 us.2 Y'.2.2.2.2.cells Y'.2.2.2.2.slots (F0 mi pc ls st0) (st.map (ab_v G)) (ab_Qc G Q' a) (ab_A G)) (C : ab_Cx Y X G p s mi args meth c) (hL : ab_L G ls Y.2.2.1 L) (hS : va_S (ab_A G) s.heap H locs) (hF : ab_Fin Y Q G p l e s mi args below meth c Z) (hu : us.1 + Y'.2.2.2.2.cells ≤ Y.2.2.2.2.cells ∧ us.2 + Y'.2.2.2.2.slots ≤ Y.2.2.2.2.slots)
    (kk : ∀ (r : Option Value) (m2 : Nat) (h2 : ab_H), Q' r m2 h2 → ab_W Y X l Q (pc + 3) L (r.toList ++ st) m2 h2 (us.1 + Y'.2.2.2.2.cells, us.2 + Y'.2.2.2.2.slots)) :
    W p l e Y.2.2.2.2 s mi args below meth c H locs us.1 us.2 Z (F0 mi pc ls st0) := by
  intro T hT X9
  obtain ⟨v, st₀, t, T', L9, h0, X', hL9, e1, e2, ⟨⟨r, m2, h2, hv, hq, hP2⟩, hz, hk⟩, step⟩ := hr T hT X9
  rw [h0] at hz hk
  have hv : v = r.map (ab_v G) := by injection hv
  subst hv
  obtain ⟨t2, a1, b1⟩ := kk r m2 h2 hq G p e s mi args below meth c T'.heap (locs ++ L9) ls Z C hL (by rw [e1]; exact hP2)
    ⟨Nat.le_trans hS.1 (by rw [e1]; exact hz), fun q d1 d2 => by rw [e1, hk q (Nat.lt_of_lt_of_le d1 hS.1) d2]; exact hS.2.1 q d1 d2, fun q hq => by
      rcases List.mem_append.mp hq with d | d
      · exact hS.2.2 q d
      · exact hL9 q d⟩ hu.1 hu.2 hF T' rfl X'
  refine ⟨t2, step t2 ?_, b1⟩
  have e9 : (r.map (ab_v G)).toList ++ st.map (ab_v G) = (r.toList ++ st).map (ab_v G) := by cases r <;> simp
  rw [e9]
  exact a1
theorem aw_invs {i n : Nat} {As st0 : List Value} {nx : Nat} (hd0 : ab_dc Y pc (.invokestatic i) 3 nx) (hw : Cond.methodLink Y.1.cls i Y'.1 ∈ lw_tbl ∧ goodWord (.methodLink Y.1.cls i Y'.1) = true) (hy : ab_st Y' n) (hf : ab_fit Y Y' = true) (hst : st0 = As.reverse ++ st) (hn : As.length = n) (hcat : (st.map fun v => v.category).sum ≤ 8) (hu : us.1 + Y'.2.2.2.2.cells ≤ Y.2.2.2.2.cells ∧ us.2 + Y'.2.2.2.2.slots ≤ Y.2.2.2.2.slots) (hC : ab_C Y' As m h Q')
    (kk : ∀ (r : Option Value) (m2 : Nat) (h2 : ab_H), Q' r m2 h2 → ab_W Y X l Q nx L (r.toList ++ st) m2 h2 (us.1 + Y'.2.2.2.2.cells, us.2 + Y'.2.2.2.2.slots)) : ab_W Y X l Q pc L st0 m h us := by
  obtain ⟨hd, rfl⟩ := hd0
  intro G p e s mi args below meth c H locs ls Z C hL hP hS h1 h2 hF
  subst hst
  have cw : CallB Y.2.2.2.2 s args Y.1.cls i Y'.1 Y'.2.1 Y'.2.2.1 Y'.2.2.2.1 (ab_w Y') Y'.2.2.2.2 Y'.2.2.2.2.cells Y'.2.2.2.2.slots n := callB_of n C.2.2.2.2.1 (ab_goodIn hy.1) rfl rfl rfl (ab_word C hy.1.2.1) (ab_word C hw) hy.1.2.2 (ab_fit_iff hf)
  refine ab_behind (Y' := Y') (Q' := Q') (va_runS (As := As.map (ab_v G)) (rest := st.map (ab_v G)) ⟨C.1, C.2.1, C.2.2.1, C.2.2.2.1, C.2.2.2.2.1⟩ (hC l G) ⟨cw, ab_word C hy.2⟩ ⟨ab_blind G As m h, fun U hU hW => ⟨rfl, C.2.2.2.2.2.1.warm hW, by rw [hU]; exact hP⟩⟩ rfl (by rw [List.length_map]; exact hn) hL.1 (by simp [F0]) ?_ hd hu) C hL hS hF hu kk
  show 2 * 0 + _ ≤ 8
  rw [ab_cats]
  omega
theorem aw_invv {i n a ci : Nat} {As st0 : List Value} {T : u_T} {N : Nat} {ty : Nat → FieldType} {fs : List Value} {nx : Nat} (hd0 : ab_dc Y pc (.invokevirtual i) 3 nx) (hw : Cond.methodLink Y.1.cls i Y'.1 ∈ lw_tbl ∧ goodWord (.methodLink Y.1.cls i Y'.1) = true) (hy : ab_vi Y' n) (hf : ab_fit Y Y' = true) (hc : ab_Cl ci Y'.1.cls T N ty) (he : h a = .inr (.inr (ci, fs))) (hst : st0 = As.reverse ++ .ref a :: st) (hn : As.length = n) (hcat : (st.map fun v => v.category).sum ≤ 8) (hu : us.1 + Y'.2.2.2.2.cells ≤ Y.2.2.2.2.cells ∧ us.2 + Y'.2.2.2.2.slots ≤ Y.2.2.2.2.slots) (hC : ab_C Y' (.ref a :: As) m h Q')
    (kk : ∀ (r : Option Value) (m2 : Nat) (h2 : ab_H), Q' r m2 h2 → ab_W Y X l Q nx L (r.toList ++ st) m2 h2 (us.1 + Y'.2.2.2.2.cells, us.2 + Y'.2.2.2.2.slots)) : ab_W Y X l Q pc L st0 m h us := by
  obtain ⟨hd, rfl⟩ := hd0
  intro G p e s mi args below meth c H locs ls Z C hL hP hS h1 h2 hF
  subst hst
  obtain ⟨a0, rfl, hlt, hat⟩ := ab_live hP he (hc.live fs)
  have cw : CallB Y.2.2.2.2 s args Y.1.cls i Y'.1 Y'.2.1 Y'.2.2.1 Y'.2.2.2.1 (ab_w Y') Y'.2.2.2.2 Y'.2.2.2.2.cells Y'.2.2.2.2.slots n := callB_of n C.2.2.2.2.1 (ab_goodIn hy.1) rfl rfl rfl (ab_word C hy.1.2.1) (ab_word C hw) hy.1.2.2 (ab_fit_iff hf)
  refine ab_behind (Y' := Y') (Q' := Q') (va_runV (C := Y'.1.cls) (b := ab_ad G (a0 + 1)) (As := As.map (ab_v G)) (rest := st.map (ab_v G)) ⟨C.1, C.2.1, C.2.2.1, C.2.2.2.1, C.2.2.2.2.1⟩ (hC l G) ⟨cw, ab_word C hy.2.1, ab_word C hy.2.2⟩ ⟨ab_blind G (.ref (a0 + 1) :: As) m h, va_recv C.2.2.2.2.2.1.1 hP.1 hc.1 hat, fun U hU hW => ⟨rfl, C.2.2.2.2.2.1.warm hW, by rw [hU]; exact hP⟩⟩ rfl (by rw [List.length_map]; exact hn) hL.1 (by simp [F0, ab_v]) ?_ hd hu) C hL hS hF hu kk
  show 2 * 0 + _ ≤ 8
  rw [ab_cats]
  omega
theorem aw_invi {i n a : Nat} {As st0 : List Value} {nx : Nat} (hd0 : ab_dc Y pc (.invokespecial i) 3 nx) (hw : Cond.methodLink Y.1.cls i Y'.1 ∈ lw_tbl ∧ goodWord (.methodLink Y.1.cls i Y'.1) = true) (hy : ab_ii Y' n) (hf : ab_fit Y Y' = true) (hst : st0 = As.reverse ++ .ref a :: st) (hn : As.length = n) (hcat : (st.map fun v => v.category).sum ≤ 8) (hu : us.1 + Y'.2.2.2.2.cells ≤ Y.2.2.2.2.cells ∧ us.2 + Y'.2.2.2.2.slots ≤ Y.2.2.2.2.slots) (hC : ab_C Y' (.ref a :: As) m h Q')
    (kk : ∀ (r : Option Value) (m2 : Nat) (h2 : ab_H), Q' r m2 h2 → ab_W Y X l Q nx L (r.toList ++ st) m2 h2 (us.1 + Y'.2.2.2.2.cells, us.2 + Y'.2.2.2.2.slots)) : ab_W Y X l Q pc L st0 m h us := by
  obtain ⟨hd, rfl⟩ := hd0
  intro G p e s mi args below meth c H locs ls Z C hL hP hS h1 h2 hF
  subst hst
  have cw : CallB Y.2.2.2.2 s args Y.1.cls i Y'.1 Y'.2.1 Y'.2.2.1 Y'.2.2.2.1 (ab_w Y') Y'.2.2.2.2 Y'.2.2.2.2.cells Y'.2.2.2.2.slots n := callB_of n C.2.2.2.2.1 (ab_goodIn hy.1) rfl rfl rfl (ab_word C hy.1.2.1) (ab_word C hw) hy.1.2.2 (ab_fit_iff hf)
  rw [hy.2.2.2] at cw
  refine ab_behind (Y' := Y') (Q' := Q') (va_runI (b := ab_ad G a) (As := As.map (ab_v G)) (rest := st.map (ab_v G)) ⟨C.1, C.2.1, C.2.2.1, C.2.2.2.1, C.2.2.2.2.1⟩ (hC l G) ⟨cw, hy.2.2.1, ab_word C hy.2.1⟩ ⟨ab_blind G (.ref a :: As) m h, fun U hU hW => ⟨rfl, C.2.2.2.2.2.1.warm hW, by rw [hU]; exact hP⟩⟩ rfl (by rw [List.length_map]; exact hn) hL.1 (by simp [F0, ab_v]) ?_ hd hu) C hL hS hF hu kk
  show 2 * 0 + _ ≤ 8
  rw [ab_cats]
  omega
theorem aw_invn {i n a : Nat} {As st0 : List Value} {host : String} {nx : Nat} (hd0 : ab_dc Y pc (.invokespecial i) 3 nx) (hw : (Y.1.cls, i, Y'.1, host) ∈ ab_nest) (hy : ab_ii Y' n) (hf : ab_fit Y Y' = true) (hst : st0 = As.reverse ++ .ref a :: st) (hn : As.length = n) (hcat : (st.map fun v => v.category).sum ≤ 8) (hu : us.1 + Y'.2.2.2.2.cells ≤ Y.2.2.2.2.cells ∧ us.2 + Y'.2.2.2.2.slots ≤ Y.2.2.2.2.slots) (hC : ab_C Y' (.ref a :: As) m h Q')
    (kk : ∀ (r : Option Value) (m2 : Nat) (h2 : ab_H), Q' r m2 h2 → ab_W Y X l Q nx L (r.toList ++ st) m2 h2 (us.1 + Y'.2.2.2.2.cells, us.2 + Y'.2.2.2.2.slots)) : ab_W Y X l Q pc L st0 m h us := by
  obtain ⟨hd, rfl⟩ := hd0
  intro G p e s mi args below meth c H locs ls Z C hL hP hS h1 h2 hF
  subst hst
  have cw : va_CN Y.2.2.2.2 s args Y.1.cls i Y'.1 host Y'.2.1 Y'.2.2.1 Y'.2.2.2.1 (ab_w Y') Y'.2.2.2.2 Y'.2.2.2.2.cells Y'.2.2.2.2.slots n := va_cnB n C.2.2.2.2.1 (ab_goodIn hy.1) rfl rfl rfl (C.2.2.2.2.2.1.2.2.2 _ hw) (ab_word C hy.1.2.1) hy.1.2.2 (ab_fit_iff hf)
  rw [hy.2.2.2] at cw
  refine ab_behind (Y' := Y') (Q' := Q') (va_runIN (b := ab_ad G a) (As := As.map (ab_v G)) (rest := st.map (ab_v G)) ⟨C.1, C.2.1, C.2.2.1, C.2.2.2.1, C.2.2.2.2.1⟩ (hC l G) ⟨cw, hy.2.2.1, ab_word C hy.2.1⟩ ⟨ab_blind G (.ref a :: As) m h, fun U hU hW => ⟨rfl, C.2.2.2.2.2.1.warm hW, by rw [hU]; exact hP⟩⟩ rfl (by rw [List.length_map]; exact hn) hL.1 (by simp [F0, ab_v]) ?_ hd hu) C hL hS hF hu kk
  show 2 * 0 + _ ≤ 8
  rw [ab_cats]
  omega
/-- the locals with which a method begins -/
def ab_sl : List Value → List (Option Value)
  | [] => []
  | v :: vs => if v.category = 2 then some v :: none :: ab_sl vs else some v :: ab_sl vs
theorem ab_sl_at (G : ab_G) : ∀ (vs : List Value) (k i : Nat) (v : Value), (ab_sl vs)[i]? = some (some v) → (k + i, ab_v G v) ∈ lv_args k (vs.map (ab_v G))
  | [], _, _, _, h => by simp [ab_sl] at h
  | w :: vs, k, i, v, h => by
    by_cases hc : w.category = 2
    · simp only [ab_sl, hc, if_true] at h
      simp only [List.map_cons, lv_args, ab_v_cat, hc, if_true]
      match i, h with
      | 0, h =>
        simp at h
        subst h
        exact List.mem_cons_self
      | 1, h => simp at h
      | i + 2, h =>
        have := ab_sl_at G vs (k + 2) i v (by simpa using h)
        rw [show k + (i + 2) = k + 2 + i by omega]
        exact List.mem_cons_of_mem _ this
    · simp only [ab_sl, hc, if_false] at h
      simp only [List.map_cons, lv_args, ab_v_cat, hc, if_false]
      match i, h with
      | 0, h =>
        simp at h
        subst h
        exact List.mem_cons_self
      | i + 1, h =>
        have := ab_sl_at G vs (k + 1) i v (by simpa using h)
        rw [show k + (i + 1) = k + 1 + i by omega]
        exact List.mem_cons_of_mem _ this
theorem ab_sl_len (G : ab_G) : ∀ vs : List Value, (lg_sl (vs.map (ab_v G))).length = (ab_sl vs).length
  | [] => rfl
  | w :: vs => by
    have ih := ab_sl_len G vs
    have e : lg_sl ((w :: vs).map (ab_v G)) = (if w.category = 2 then [.val (ab_v G w), .second] else [.val (ab_v G w)]) ++ lg_sl (vs.map (ab_v G)) := by
      simp [lg_sl, ab_v_cat]
    rw [e, List.length_append, ih]
    by_cases hc : w.category = 2
    · simp [ab_sl, hc]; omega
    · simp [ab_sl, hc]; omega
theorem ab_C.of {av : List Value} {L : List (Option Value)} (hp : plainName Y.1.cls = true) (hL : ab_sl av ++ List.replicate (Y.2.2.1 - (ab_sl av).length) none = L) (hn : (ab_sl av).length ≤ Y.2.2.1) (hb : ∀ l, ab_W Y none l Q 0 L [] m h (0, 0)) : ab_C Y av m h Q := by
  intro l G
  refine Met.ofW (cc := Y.2.1) (maxL := Y.2.2.1) (ret := Y.2.2.2.1) hp rfl ?_
  intro p e s mi args below meth c s₁ B hml hv
  obtain ⟨rfl, hK, hP⟩ := hv
  have hts := atoms_spec (ws := ab_w Y) B.pre
  have hown : s.vm.findClass Y.1.cls = some mi.cls := findClass_of_methodNamed B.named
  have hin : meth.name = Y.1.name := (name_of_methodNamed B.named B.method).1
  rw [lg_entry_eq]
  have hlen : (lg_sl (av.map (ab_v G))).length ≤ Y.2.2.1 := by rw [ab_sl_len]; exact hn
  have hl := lv_entry (av.map (ab_v G)) (n := Y.2.2.1) hlen
  generalize (lg_sl (av.map (ab_v G)) ++ List.replicate (Y.2.2.1 - (lg_sl (av.map (ab_v G))).length) Slot.unset).toArray = ls at hl ⊢
  refine hb l G p e s mi _ below meth c s.heap [] ls _ ⟨B.exec, B.bytes, hml, hown, fun w hw => hts w (List.mem_cons_of_mem _ hw), hK, B.returns, B.notSynchronized, fun q => hin.trans q, by rw [hP.2.1]; exact Nat.le_add_right _ _, trivial⟩ ⟨hl.1, ?_, hl.2.1, fun i v hi => ?_⟩ hP va_S.rf (Nat.zero_le _) (Nat.zero_le _) ?_
  · rw [← hL, List.length_append, List.length_replicate]
    omega
  · rw [← hL] at hi
    by_cases h1 : i < (ab_sl av).length
    · rw [List.getElem?_append_left h1] at hi
      have := ab_sl_at G av 0 i v hi
      rw [Nat.zero_add] at this
      exact hl.2.2 _ this
    · rw [List.getElem?_append_right (by omega)] at hi
      obtain ⟨h2, h3⟩ := List.getElem?_eq_some_iff.mp hi
      rw [List.getElem_replicate] at h3
      cases h3
  · intro r m2 h2 us H locs pc ls hq u1 u2 hP2 hS2 hret
    have hlocks := B.notSynchronized
    have hqq : ∀ t : State, t.heap = H → ab_Qc G Q (av.map (ab_v G)).toArray s (.returned (r.map (ab_v G))) t := fun t ht => ⟨⟨r, m2, h2, rfl, hq, by rw [ht]; exact hP2⟩, hS2.F ht⟩
    refine W.widen u1 u2 ?_
    match r, hret with
    | none, hret => exact W.vret B.exec B.bytes (B.returns.trans hret.2) (fun t ht _ => hqq t ht) hS2.2.2 hret.1 hlocks
    | some (.int v), hret =>
      obtain ⟨d1, ty, d2, d3⟩ := hret
      exact W.zret B.exec B.bytes (B.returns.trans d2) d3 (fun t ht _ => hqq t ht) hS2.2.2 d1 hlocks
    | some (.ref a), hret =>
      obtain ⟨d1, n, d2⟩ := hret
      exact W.aret B.exec B.bytes (B.returns.trans d2) (Or.inl ⟨n, rfl⟩) (Or.inr ⟨_, rfl⟩) (fun t ht _ => hqq t ht) hS2.2.2 d1 hlocks
end AWI
