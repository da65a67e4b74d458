/-! making, copying, calling, over the own world -/
theorem ab_good_i : Cond.arrayClass .int ∈ lw_tbl ∧ goodWord (.arrayClass .int) = true := by decide +kernel
theorem ab_good_cn : Cond.native arraycopyName ∈ lw_tbl ∧ goodWord (.native arraycopyName) = true := by decide +kernel
theorem ab_good_cs : Cond.static arraycopyName ∈ lw_tbl ∧ goodWord (.static arraycopyName) = true := by decide +kernel
theorem ab_good_ci : Cond.initialized "java/lang/System" ∈ lw_tbl ∧ goodWord (.initialized "java/lang/System") = true := by decide +kernel
theorem ab_good_oi : Cond.instanceMethod objectInit ∈ lw_tbl ∧ goodWord (.instanceMethod objectInit) = true := by decide +kernel
theorem ab_good_oc : Cond.code objectInit ⟨#[0xb1]⟩ 1 none ∈ lw_tbl ∧ goodWord (.code objectInit ⟨#[0xb1]⟩ 1 none) = true := by decide +kernel
theorem ab_good_ms : Cond.static Lib.Math.max.name ∈ lw_tbl ∧ goodWord (.static Lib.Math.max.name) = true := by decide +kernel
theorem ab_good_mc : Cond.code Lib.Math.max.name Lib.Math.max.code 2 (some .int) ∈ lw_tbl ∧ goodWord (.code Lib.Math.max.name Lib.Math.max.code 2 (some .int)) = true := by decide +kernel
theorem ab_good_as : Cond.static Lib.Math.abs.name ∈ lw_tbl ∧ goodWord (.static Lib.Math.abs.name) = true := by decide +kernel
theorem ab_good_ac : Cond.code Lib.Math.abs.name Lib.Math.abs.code 1 (some .int) ∈ lw_tbl ∧ goodWord (.code Lib.Math.abs.name Lib.Math.abs.code 1 (some .int)) = true := by decide +kernel
theorem ab_good_mi : Cond.initialized "java/lang/Math" ∈ lw_tbl ∧ goodWord (.initialized "java/lang/Math") = true := by decide +kernel
theorem ab_cats (G : ab_G) (st : List Value) : ((st.map (ab_v G)).map fun v => v.category) = st.map fun v => v.category := by
  rw [List.map_map]
  apply List.map_congr_left
  intro v _
  exact ab_v_cat G v
section AWC
variable {Y : ab_Y} {X : ab_X} {l : Launch} {Q : Option Value → Nat → ab_H → Prop} {pc : Nat} {L : List (Option Value)} {st : List Value} {m : Nat} {h : ab_H} {us : Nat × Nat}
theorem aw_newarray {n : Int32} {N : Nat} {nx : Nat} (hd0 : ab_dc Y pc (.newarray .int) 2 nx) (hn : ¬ n < 0) (hN : n.toNatClampNeg = N) (hb : N * 4 ≤ 536870912) (hu : us.1 + 1 ≤ Y.2.2.2.2.cells ∧ us.2 + N ≤ Y.2.2.2.2.slots)
    (kk : ab_W Y X l Q nx L (.ref (m + 1) :: st) (m + 1) (ab_set h (m + 1) (.inl (N, fun _ => 0))) (us.1 + 1, us.2 + N)) : ab_W Y X l Q pc L (.int n :: st) m h us := by
  obtain ⟨hd, rfl⟩ := hd0
  intro G p e s mi args below meth c H locs ls Z C hL hP hS h1 h2 hF
  refine va_newaK (h := ab_ad G (m + 1)) C.1 C.2.1 (atype := .int) (ab_word C ab_good_i) rfl hd rfl hn hN hb hu.1 hu.2 (ab_ad_new hP) fun H1 cA e1 z1 o1 hAr hNm => ?_
  have hcI : s.vm.findClass ("[" ++ (FieldType.int).toString) = some G.2.1 := (C.2.2.2.2.2.1.1.2 0 _ rfl).2
  have hNm : s.vm.findClass ("[" ++ (FieldType.int).toString) = some cA := hNm
  have ec : cA = G.2.1 := Option.some.inj (hNm.symm.trans hcI)
  subst ec
  have hsz := ab_ad_new hP
  rw [← hsz] at z1 o1 e1
  refine kk G p e s mi args below meth c H1 locs ls Z C hL (hP.push _ ?_ z1 o1) ?_ hu.1 hu.2 hF
  · show H1[ab_ad G (m + 1)]? = some (vp_cell _ _)
    rw [← hsz, e1, vp_cell_i]
    rfl
  · exact ⟨Nat.le_trans hS.1 (by omega), fun x g1 g2 => (o1 x (Nat.lt_of_lt_of_le g1 hS.1)).trans (hS.2.1 x g1 g2), hS.2.2⟩
theorem aw_new {i ci : Nat} {C0 : String} {T : u_T} {N : Nat} {ty : Nat → FieldType} {fs : List Value} {nx : Nat} (hd0 : ab_dc Y pc (.new i) 3 nx) (hc : ab_Cl ci C0 T N ty) (hw : (Cond.classLink Y.1.cls i C0 ∈ lw_tbl ∧ goodWord (.classLink Y.1.cls i C0) = true) ∧ (Cond.instantiable C0 N ∈ lw_tbl ∧ goodWord (.instantiable C0 N) = true) ∧ (Cond.initialized C0 ∈ lw_tbl ∧ goodWord (.initialized C0) = true)) (hfs : ∀ j, j < N → defaultValue (ty j) = vp_V fs j) (hnr : ∀ G, fs.map (ab_v G) = fs) (hu : us.1 + 1 ≤ Y.2.2.2.2.cells ∧ us.2 + N ≤ Y.2.2.2.2.slots)
    (kk : ab_W Y X l Q nx L (.ref (m + 1) :: st) (m + 1) (ab_set h (m + 1) (.inr (.inr (ci, fs)))) (us.1 + 1, us.2 + N)) : ab_W Y X l Q pc L st m h us := by
  obtain ⟨hd, rfl⟩ := hd0
  intro G p e s mi args below meth c H locs ls Z C hL hP hS h1 h2 hF
  have hts := C.2.2.2.2.1
  have hKn := C.2.2.2.2.2.1.1.1 ci _ hc.1
  have hsz := ab_ad_new hP
  refine W.newcK (h := ab_ad G (m + 1)) C.1 C.2.1 C.2.2.2.1 (ab_word C hw.1) (ab_word C hw.2.1) (ab_word C hw.2.2) rfl hd hu.1 hu.2 hKn.2.1 hsz fun H1 kC hkC e1 z1 o1 => ?_
  rw [← hsz] at z1 o1
  refine kk G p e s mi args below meth c H1 locs ls Z C hL (hP.push _ ?_ z1 o1) ?_ hu.1 hu.2 hF
  · refine ⟨_, hc.1, (u_born ty hts hc.2.1 hKn hkC e1 hc.2.2.1).to ?_⟩
    rw [hnr G]
    exact hfs
  · exact ⟨Nat.le_trans hS.1 (by omega), fun x g1 g2 => (o1 x (Nat.lt_of_lt_of_le g1 hS.1)).trans (hS.2.1 x g1 g2), hS.2.2⟩
theorem aw_anewarray {i : Nat} {n : Int32} {N : Nat} {nx : Nat} (hd0 : ab_dc Y pc (.anewarray i) 3 nx) (hw : Cond.classLink Y.1.cls i "CoatRings$Slips" ∈ lw_tbl ∧ goodWord (.classLink Y.1.cls i "CoatRings$Slips") = true) (hn : ¬ n < 0) (hN : n.toNatClampNeg = N) (hb : N * 4 ≤ 536870912) (hu : us.1 + 1 ≤ Y.2.2.2.2.cells ∧ us.2 + N ≤ Y.2.2.2.2.slots)
    (kk : ab_W Y X l Q nx L (.ref (m + 1) :: st) (m + 1) (ab_set h (m + 1) (.inr (.inl (true, N, fun _ => none)))) (us.1 + 1, us.2 + N)) : ab_W Y X l Q pc L (.int n :: st) m h us := by
  obtain ⟨hd, rfl⟩ := hd0
  intro G p e s mi args below meth c H locs ls Z C hL hP hS h1 h2 hF
  subst hN
  refine W.anew C.1 C.2.1 C.2.2.2.1 (ab_word C hw) (va_AO.use C.2.2.2.2.2.1.2.1) rfl hd rfl hn hb hu.1 hu.2 fun cA kA comp f1 f2 f3 f4 => ?_
  have hsz := ab_ad_new hP
  obtain ⟨kA2, comp2, -, -, -, hcS⟩ := (C.2.2.2.2.2.1.1.2 1 _ rfl).2
  have ec : cA = G.2.2.1 := Option.some.inj (f1.symm.trans hcS)
  subst ec
  generalize hH1 : H.push ({ cls := G.2.2.1, slots := Array.replicate n.toNatClampNeg .null, vm := .none } : Cell) = H1
  have z1 : H1.size = H.size + 1 := by rw [← hH1, Array.size_push]
  have e1 : H1[H.size]? = some (arrV G.2.2.1 n.toNatClampNeg (fun _ => .null)) := by rw [← hH1, Array.getElem?_push_size, ← arrV_new]
  have o1 : ∀ q : Nat, q < H.size → H1[q]? = H[q]? := fun q hq => by rw [← hH1, Array.getElem?_push, if_neg (Nat.ne_of_lt hq)]
  rw [show (Value.ref H.size :: st.map (ab_v G)) = (Value.ref (m + 1) :: st).map (ab_v G) by rw [hsz]; rfl]
  refine kk G p e s mi args below meth c H1 locs ls Z C hL (hP.push _ ?_ z1 o1) ?_ hu.1 hu.2 hF
  · show H1[ab_ad G (m + 1)]? = some (vp_cell _ _)
    rw [← hsz, e1, vp_cell_q]
    rfl
  · exact ⟨Nat.le_trans hS.1 (by omega), fun x g1 g2 => (o1 x (Nat.lt_of_lt_of_le g1 hS.1)).trans (hS.2.1 x g1 g2), hS.2.2⟩
theorem aw_aastore {a n ci v : Nat} {f : Nat → Option Nat} {T : u_T} {N : Nat} {ty : Nat → FieldType} {fs : List Value} {i : Int32} {nx : Nat} (hd0 : ab_dc Y pc (.aastore) 1 nx) (he : h a = .inr (.inl (true, n, f))) (hc : ab_Cl ci "CoatRings$Slips" T N ty) (hv : h v = .inr (.inr (ci, fs))) (hi : vp_in i n)
    (kk : ab_W Y X l Q nx L st m (ab_set h a (.inr (.inl (true, n, va_up f i.toNatClampNeg (some v))))) us) : ab_W Y X l Q pc L (.ref v :: .int i :: .ref a :: st) m h us := by
  obtain ⟨hd, rfl⟩ := hd0
  intro G p e s mi args below meth c H locs ls Z C hL hP hS h1 h2 hF
  obtain ⟨a0, rfl, hlt, hat⟩ := ab_live hP he (ab_liveR _)
  obtain ⟨v0, rfl, hlv, hav⟩ := ab_live hP hv (hc.live fs)
  have hlt2 : i.toNatClampNeg < n := Nat.not_le.mp fun q => hi (Or.inr q)
  have h0 : ¬ i < 0 := fun q => hi (Or.inl q)
  have hK := C.2.2.2.2.2.1.1
  obtain ⟨r', hr', cellV, g1, g2, g3, -⟩ := hP.1 v0 _ hav
  have hcls := (hK.1 ci _ hc.1).2
  obtain ⟨kA, comp, k1, k2, k3, -⟩ := (hK.2 1 _ rfl).2
  have hcomp : comp = G.1.1 ci := Option.some.inj (k3.symm.trans hcls.1)
  subst hcomp
  obtain ⟨kC, hkC, -⟩ := hcls.2
  refine W.aast C.1 C.2.1 (hP.1 a0 _ hat) (fun q h => by cases h) (fun h => by cases h) k1 k2 rfl hkC ⟨h0, by show _ < (arrV _ _ _).slots.size; rw [arrV_size]; exact hlt2⟩ g1 (fun q h => by rw [g3] at h; cases h) (by rw [g2]; exact hkC) (by rw [g2]; exact va_assign hcls) rfl rfl hd fun H1 e1 z oq => ?_
  refine kk G p e s mi args below meth c H1 _ ls Z C hL (hP.upd hlt _ ?_ z oq) (hS.put z oq (ab_ad_A G a0)) h1 h2 hF
  show H1[ab_ad G (a0 + 1)]? = some (vp_cell _ _)
  rw [e1]
  rw [vp_cell_q, vp_cell_q, arrV_store]
  congr 2
  funext q
  by_cases hq : q = i.toNatClampNeg
  · subst hq
    simp [updV, va_up, va_rf]
  · simp [updV, va_up, hq]
theorem aw_objinit {i : Nat} {a : Nat} {nx : Nat} (hd0 : ab_dc Y pc (.invokespecial i) 3 nx) (hw : Cond.methodLink Y.1.cls i objectInit ∈ lw_tbl ∧ goodWord (.methodLink Y.1.cls i objectInit) = true) (hr : 1 ≤ Y.2.2.2.2.frames ∧ (st.map fun v => v.category).sum + 12 ≤ Y.2.2.2.2.locals)
    (kk : ab_W Y X l Q nx L st m h us) : ab_W Y X l Q pc L (.ref a :: st) m h us := by
  obtain ⟨hd, rfl⟩ := hd0
  intro G p e s mi args below meth c H locs ls Z C hL hP hS h1 h2 hF
  refine W.objInit C.1 C.2.1 C.2.2.2.1 (ab_word C hw) (ab_word C ab_good_oi) (ab_word C ab_good_oc) rfl (hL.1.trans C.2.2.1.symm) rfl hd hr.1 ?_ (kk G p e s mi args below meth c H locs ls Z C hL hP hS h1 h2 hF)
  show 2 * 0 + _ + 12 ≤ _
  rw [ab_cats]
  omega
theorem aw_max {i : Nat} {x y : Int32} {nx : Nat} (hd0 : ab_dc Y pc (.invokestatic i) 3 nx) (hw : Cond.methodLink Y.1.cls i Lib.Math.max.name ∈ lw_tbl ∧ goodWord (.methodLink Y.1.cls i Lib.Math.max.name) = true) (hr : 1 ≤ Y.2.2.2.2.frames ∧ (st.map fun v => v.category).sum + 13 ≤ Y.2.2.2.2.locals)
    (kk : ab_W Y X l Q nx L (.int (if x < y then y else x) :: st) m h us) : ab_W Y X l Q pc L (.int y :: .int x :: st) m h us := by
  obtain ⟨hd, rfl⟩ := hd0
  intro G p e s mi args below meth c H locs ls Z C hL hP hS h1 h2 hF
  exact va_mmax C.1 C.2.1 (C.2.2.1.trans hL.1.symm) C.2.2.2.1 (ab_word C hw) (ab_word C ab_good_ms) (ab_word C ab_good_mi) (ab_word C ab_good_mc) hr.1 (by rw [ab_cats]; exact hr.2) h1 h2 hd (kk G p e s mi args below meth c H locs ls Z C hL hP hS h1 h2 hF)
theorem aw_abs {i : Nat} {x : Int32} {nx : Nat} (hd0 : ab_dc Y pc (.invokestatic i) 3 nx) (hw : Cond.methodLink Y.1.cls i Lib.Math.abs.name ∈ lw_tbl ∧ goodWord (.methodLink Y.1.cls i Lib.Math.abs.name) = true) (hr : 1 ≤ Y.2.2.2.2.frames ∧ (st.map fun v => v.category).sum + 13 ≤ Y.2.2.2.2.locals)
    (kk : ab_W Y X l Q nx L (.int (if 0 ≤ x then x else 0 - x) :: st) m h us) : ab_W Y X l Q pc L (.int x :: st) m h us := by
  obtain ⟨hd, rfl⟩ := hd0
  intro G p e s mi args below meth c H locs ls Z C hL hP hS h1 h2 hF
  exact va_mabs C.1 C.2.1 (C.2.2.1.trans hL.1.symm) C.2.2.2.1 (ab_word C hw) (ab_word C ab_good_as) (ab_word C ab_good_mi) (ab_word C ab_good_ac) hr.1 (by rw [ab_cats]; exact hr.2) h1 h2 hd (kk G p e s mi args below meth c H locs ls Z C hL hP hS h1 h2 hF)
theorem aw_copy {i a b n0 n1 : Nat} {f g : Nat → Int32} {sp dp n : Int32} {nx : Nat} (hd0 : ab_dc Y pc (.invokestatic i) 3 nx) (hw : Cond.methodLink Y.1.cls i arraycopyName ∈ lw_tbl ∧ goodWord (.methodLink Y.1.cls i arraycopyName) = true) (hr : 1 ≤ Y.2.2.2.2.frames ∧ (st.map fun v => v.category).sum + (nativeFrameWords "java/lang/System" "arraycopy" 5 + 11) ≤ Y.2.2.2.2.locals)
    (ha : h a = .inl (n0, f)) (hb : h b = .inl (n1, g)) (g1 : ¬ sp < 0) (g2 : ¬ dp < 0) (g3 : ¬ n < 0) (g4 : sp.toNatClampNeg + n.toNatClampNeg ≤ n0) (g5 : dp.toNatClampNeg + n.toNatClampNeg ≤ n1)
    (kk : ab_W Y X l Q nx L st m (ab_set h b (.inl (n1, va_cpy f g sp.toNatClampNeg dp.toNatClampNeg n.toNatClampNeg))) us) : ab_W Y X l Q pc L (.int n :: .int dp :: .ref b :: .int sp :: .ref a :: st) m h us := by
  obtain ⟨hd, rfl⟩ := hd0
  intro G p e s mi args below meth c H locs ls Z C hL hP hS h1 h2 hF
  obtain ⟨a0, rfl, hlt, hat⟩ := ab_live hP ha (ab_liveI n0 f)
  obtain ⟨b0, rfl, hlb, hbt⟩ := ab_live hP hb (ab_liveI n1 g)
  have hK := C.2.2.2.2.2.1.1
  have nn : ∀ z : Int32, ¬ z < 0 → z.toInt = (z.toNatClampNeg : Int) := by
    intro z hz
    have hz0 : (0 : Int) ≤ z.toInt := by
      have := Int32.not_lt.mp hz
      simpa using Int32.le_iff_toInt_le.mp this
    show z.toInt = ((z.toInt.toNat : Nat) : Int)
    omega
  intro T hT X9
  have hc0 : H[ab_ad G (a0 + 1)]? = some (vp_cell G.2.1 (n0, .inl f)) := hP.1 a0 _ hat
  have hc1 : H[ab_ad G (b0 + 1)]? = some (vp_cell G.2.1 (n1, .inl g)) := hP.1 b0 _ hbt
  obtain ⟨-, k0, hk0, cm0, hkk0⟩ := (hK.2 0 _ rfl).1 n0 (fun j => .int (f j))
  obtain ⟨-, k1, hk1, cm1, hkk1⟩ := (hK.2 0 _ rfl).1 n1 (fun j => .int (g j))
  obtain ⟨vm', X', step⟩ := X9.arraycopy C.1 C.2.2.2.1 (ab_word C hw) (ab_word C ab_good_cn) (ab_word C ab_good_cs) (ab_word C ab_good_ci) (src := ab_ad G (a0 + 1)) (dst := ab_ad G (b0 + 1)) (cs := vp_cell G.2.1 (n0, .inl f)) (cd := vp_cell G.2.1 (n1, .inl g)) (srcPos := sp) (destPos := dp) (n := n) (by rw [hT]; exact hc0) (by rw [hT]; exact hc1)
    (fun _ h => by cases h) (fun _ h => by cases h) (fun h => by cases h) (fun h => by cases h) hk0 hk1 hkk0 hkk1 (by simp [refKind]) g1 g2 g3
    (by rw [nn sp g1, nn n g3]; show ¬ _ > ((arrV G.2.1 n0 (fun j => .int (f j))).slots.size : Int); rw [arrV_size]; omega)
    (by rw [nn dp g2, nn n g3]; show ¬ _ > ((arrV G.2.1 n1 (fun j => .int (g j))).slots.size : Int); rw [arrV_size]; omega)
    (fun vm₁ _ i hi => by
      have e : (vp_cell G.2.1 (n0, .inl f)).slots.getD (sp.toNatClampNeg + i) .null = .int (f (sp.toNatClampNeg + i)) := by
        show (arrV G.2.1 n0 (fun j => .int (f j))).slots.getD _ _ = _
        rw [Array.getD_eq_getD_getElem?, arrV_read _ _ (by omega)]
        rfl
      refine ⟨?_, ?_⟩
      · rw [e]
        rfl
      · rw [e]
        exact trivial)
    (g := F0 mi pc ls ((Value.int n :: .int dp :: .ref (b0 + 1) :: .int sp :: .ref (a0 + 1) :: st).map (ab_v G))) rfl (hL.1.trans C.2.2.1.symm) (rest := st.map (ab_v G)) rfl (by rw [C.2.1]; exact hd) hr.1 (by show 2 * 0 + _ + _ ≤ _; rw [ab_cats]; omega)
  have e1 : copied (vp_cell G.2.1 (n0, .inl f)) (vp_cell G.2.1 (n1, .inl g)) sp dp n = vp_cell G.2.1 (n1, .inl (va_cpy f g sp.toNatClampNeg dp.toNatClampNeg n.toNatClampNeg)) := va_copied (fun z => .int z) G.2.1 G.2.1 f g g4
  rw [e1] at X' step
  have hl : ab_ad G (b0 + 1) < H.size := (Array.getElem?_eq_some_iff.mp hc1).1
  have hheap : ((T.setVm vm').setCell (ab_ad G (b0 + 1)) (vp_cell G.2.1 (n1, .inl (va_cpy f g sp.toNatClampNeg dp.toNatClampNeg n.toNatClampNeg)))).heap = H.setIfInBounds (ab_ad G (b0 + 1)) (vp_cell G.2.1 (n1, .inl (va_cpy f g sp.toNatClampNeg dp.toNatClampNeg n.toNatClampNeg))) := by rw [← hT]; rfl
  have oq : ∀ q : Nat, q ≠ ab_ad G (b0 + 1) → (H.setIfInBounds (ab_ad G (b0 + 1)) (vp_cell G.2.1 (n1, .inl (va_cpy f g sp.toNatClampNeg dp.toNatClampNeg n.toNatClampNeg))))[q]? = H[q]? := fun q hq => by simp [Array.getElem?_setIfInBounds, Ne.symm hq]
  have hP1 : ab_P G m (ab_set h (b0 + 1) (.inl (n1, va_cpy f g sp.toNatClampNeg dp.toNatClampNeg n.toNatClampNeg))) (H.setIfInBounds (ab_ad G (b0 + 1)) (vp_cell G.2.1 (n1, .inl (va_cpy f g sp.toNatClampNeg dp.toNatClampNeg n.toNatClampNeg)))) :=
    hP.upd hlb _ (show (H.setIfInBounds (ab_ad G (b0 + 1)) _)[ab_ad G (b0 + 1)]? = some _ by simp [Array.getElem?_setIfInBounds, hl]) (by simp) oq
  obtain ⟨t, a1, b1⟩ := kk G p e s mi args below meth c _ _ ls Z C hL hP1 ⟨by simp; exact hS.1, fun q d1 d2 => by
      rw [oq q (fun e => d2 (by rw [e]; exact ab_ad_A G b0))]
      exact hS.2.1 q d1 d2, fun q hq => by
      rcases List.mem_append.mp hq with h | h
      · exact hS.2.2 q h
      · obtain ⟨z, -, hz⟩ := List.mem_map.mp h
        rw [← hz]
        exact ab_ad_A G b0⟩ h1 h2 hF _ hheap X'
  exact ⟨t, step t a1, b1⟩
end AWC
