theorem c_arrive {m : Nat} {h hh : ab_H} {N : NS} (hX : NX h 2 N) {b : Nat} {K cu : Nat} {dn : Nat → Prop} {kc lim : Nat} {go : Int32} {gi gm : Nat → Int32} {sn cl : Nat → Prop} {M : Nat → Nat} {P : Nat → List Nat} {F J : Nat → Nat} (qs : QS N b h hh K cu (dn) kc lim go gi gm sn (fun z => cl z ∨ z = cu) M P F J) (hg : GO b lim cl M P go) (hnc : ¬ cl cu) (hw : ow (xr cu) b = true) (hkl : kyf N b M P cu ≤ lim) : ab_C Y_Planner_arrive [.ref 35, .int (nI cu)] m hh (fun r9 m2 h2 => r9 = none ∧ m2 = m ∧ ∃ go2 : Int32, QS N b h h2 K cu (dn) kc lim go2 gi gm sn (fun z => cl z ∨ z = cu) M P F J ∧ GO b lim (fun z => cl z ∨ z = cu) M P go2) := by
  obtain ⟨kn, mi, me, gs, gg, gr, gf, gb, sz, gk, gt, gp, pl, pa, hp, iv⟩ := id qs
  obtain ⟨o35, o36, o37, o38, o39, o40, o41, o42, o43, o44, o45, o46, ofr⟩ := id pl
  have nX : NX hh 2 N := hX.fr (fun k _ _ => ofr k (by omega))
  have n0 := nX.1
  have pt := iv.pt pa
  have hkl2 : 1024 * M cu + (P cu).length + 1024 * ffo N (xr cu) b (N_n N) ≤ lim := hkl
  have lbc2 : lim ≤ 1024 * M cu + (P cu).length := iv.2.2.2.2.1 cu (iv.2.1 cu (Or.inr rfl)).1 hw
  have lbc : 1024 * M cu + (P cu).length = lim := by omega
  have hl7 := (pt cu (Or.inr rfl)).2.1
  refine ab_C.of (L := [some (.ref 35), some (.int (nI cu))]) rfl rfl (Nat.le_of_ble_eq_true rfl) (fun l => ?_)
  refine aw_aload_n d_Planner_arrive_0 rfl ?_
  refine aw_get (k := 6) d_Planner_arrive_1 cl_Planner k_Planner_53 (by decide) o35 rfl ?_
  refine aw_iconst (v := (-1)) d_Planner_arrive_4 (by decide) ?_
  refine aw_icmp_eq (tgt := 45) d_Planner_arrive_5 (by decide) (fun c5 => ?_) (fun c5 => ?_)
  · refine aw_aload_n d_Planner_arrive_45 rfl ?_
    refine aw_iload_n d_Planner_arrive_46 rfl ?_
    refine aw_put (k := 6) (fs' := [.int (ab_bl kn), .int mi, .int me, .ref 36, .ref 2, .int (nI b), .int (nI cu), .int (nI lim), .ref 37, .ref 38, .ref 39, .ref 40, .ref 41, .ref 45, .ref 46]) d_Planner_arrive_47 cl_Planner k_Planner_53 (by decide) rfl ⟨rfl, rfl⟩ o35 (Nat.le_of_ble_eq_true rfl) rfl ?_
    refine aw_return d_Planner_arrive_50 rfl ?_
    first
      | (have h1 := ab_bl_1.mp c42
         refine ⟨rfl, rfl, nI cu, ⟨kn, mi, me, gs, gg, gr, gf, gb, sz, gk, gt, gp, pl.o_ kn mi me (nI cu) b lim, pa, hp, iv⟩, Or.inr ⟨cu, rfl, Or.inr rfl, hw, lbc, fun r hr hwr => ?_⟩⟩
         rcases hr with hr | hr
         · exact ⟨(g5 r hr hwr).1, rle_tr (Or.inl (hiff.mp h1)) (g5 r hr hwr).2⟩
         · rw [hr]; exact ⟨lbc, Or.inr rfl⟩)
      | (have h1 := ab_bl_0.mp c42
         refine ⟨rfl, rfl, nI g, ⟨kn, mi, me, gs, gg, gr, gf, gb, sz, gk, gt, gp, pl, pa, hp, iv⟩, Or.inr ⟨g, rfl, Or.inl g2, g3, g4, fun r hr hwr => ?_⟩⟩
         rcases hr with hr | hr
         · exact g5 r hr hwr
         · rw [hr]
           refine ⟨lbc, ?_⟩
           rcases rlt_tot (P g) (P cu) hln with y | y | y
           · exact Or.inl y
           · exact Or.inr y
           · have := hiff.mpr y
             rw [h1] at this
             cases this)
      | (have hno := hg.elim (fun z => z.2) (fun ⟨g, e, g2, _⟩ => by
           have b1 := (pt g (Or.inl g2)).1
           rw [c5, fa_eq, nI_toInt (by omega), show ((-1 : Int32)).toInt = -1 from by decide] at e
           omega)
         refine ⟨rfl, rfl, nI cu, ⟨kn, mi, me, gs, gg, gr, gf, gb, sz, gk, gt, gp, pl.o_ kn mi me (nI cu) b lim, pa, hp, iv⟩, Or.inr ⟨cu, rfl, Or.inr rfl, hw, lbc, fun r hr hwr => ?_⟩⟩
         rcases hr with hr | hr
         · rw [hno r hr] at hwr
           cases hwr
         · rw [hr]; exact ⟨lbc, Or.inr rfl⟩)
  · obtain ⟨g, eg, g2, g3, g4, g5⟩ := hg.elim (fun z => absurd z.1 c5) id
    subst eg
    have g4 : 1024 * M g + (P g).length = lim := g4
    obtain ⟨a1, a2, a3⟩ := pt cu (Or.inr rfl)
    obtain ⟨b1, b2, b3⟩ := pt g (Or.inl g2)
    have hln : (P g).length = (P cu).length := by omega
    have ngc : g ≠ cu := fun e => hnc (by rw [← e]; exact g2)
    have cc : P cu = J cu :: P (F cu) ∧ (cl (F cu) ∨ F cu = cu) ∧ J cu < 298 ∧ mav (J cu) ∧ gf cu = nI (F cu) ∧ gb cu = nI (mtA (J cu)) := a3.elim (fun z => by
      exfalso
      rw [z.1, List.length_nil] at hln
      rcases b3 with y | y
      · exact ngc (y.2.trans z.2.symm)
      · rw [y.1, List.length_cons] at hln
        omega) id
    have dd : P g = J g :: P (F g) ∧ (cl (F g) ∨ F g = cu) ∧ J g < 298 ∧ mav (J g) ∧ gf g = nI (F g) ∧ gb g = nI (mtA (J g)) := b3.elim (fun z => by
      exfalso
      rw [z.1, List.length_nil, cc.1, List.length_cons] at hln
      omega) id
    obtain ⟨cc1, cc2, cc3, cc4, cc5, cc6⟩ := cc
    obtain ⟨dd1, dd2, dd3, dd4, dd5, dd6⟩ := dd
    have hln2 : (P (F cu)).length = (P (F g)).length := by
      rw [cc1, dd1, List.length_cons, List.length_cons] at hln
      omega
    refine aw_gen (fun z => PL h z kn mi me b (nI g) lim gs gg gr gf gb sz gk gt gp gi gm) (pl) (fun hh pl => ?_)
    obtain ⟨o35, o36, o37, o38, o39, o40, o41, o42, o43, o44, o45, o46, ofr⟩ := id pl
    have nX : NX hh 2 N := hX.fr (fun k _ _ => ofr k (by omega))
    have n0 := nX.1
    refine aw_aload_n d_Planner_arrive_8 rfl ?_
    refine aw_aload_n d_Planner_arrive_9 rfl ?_
    refine aw_get (k := 10) d_Planner_arrive_10 cl_Planner k_Planner_21 (by decide) o35 rfl ?_
    refine aw_iload_n d_Planner_arrive_13 rfl ?_
    refine aw_ialoadN d_Planner_arrive_14 o39 a1 (by decide) ?_
    rw [cc5]
    refine aw_aload_n d_Planner_arrive_15 rfl ?_
    refine aw_get (k := 11) d_Planner_arrive_16 cl_Planner k_Planner_24 (by decide) o35 rfl ?_
    refine aw_iload_n d_Planner_arrive_19 rfl ?_
    refine aw_ialoadN d_Planner_arrive_20 o40 a1 (by decide) ?_
    rw [cc6]
    refine aw_aload_n d_Planner_arrive_21 rfl ?_
    refine aw_get (k := 10) d_Planner_arrive_22 cl_Planner k_Planner_21 (by decide) o35 rfl ?_
    refine aw_aload_n d_Planner_arrive_25 rfl ?_
    refine aw_get (k := 6) d_Planner_arrive_26 cl_Planner k_Planner_53 (by decide) o35 rfl ?_
    refine aw_ialoadN d_Planner_arrive_29 o39 b1 (by decide) ?_
    rw [dd5]
    refine aw_aload_n d_Planner_arrive_30 rfl ?_
    refine aw_get (k := 11) d_Planner_arrive_31 cl_Planner k_Planner_24 (by decide) o35 rfl ?_
    refine aw_aload_n d_Planner_arrive_34 rfl ?_
    refine aw_get (k := 6) d_Planner_arrive_35 cl_Planner k_Planner_53 (by decide) o35 rfl ?_
    refine aw_ialoadN d_Planner_arrive_38 o40 b1 (by decide) ?_
    rw [dd6]
    refine aw_v0 (a := 35) d_Planner_arrive_39 k_Planner_179 ok_Planner_isEarlier rfl ⟨rfl, rfl⟩ cl_Planner o35 (c_isEarlier o35 o39 o40 pt cc2 dd2 hln2 cc3 dd3 cc4 dd4) rfl rfl (Nat.le_of_ble_eq_true rfl) (fun r2 m2 h2 z => ?_)
    obtain ⟨em, eh, eb2, rfl, hiff⟩ := z
    rw [em, eh]
    rw [← cc1, ← dd1] at hiff
    show ab_W _ _ _ _ 42 _ [.int (ab_bl eb2)] _ _ _
    refine aw_if_eq (tgt := 50) d_Planner_arrive_42 (by decide) (fun c42 => ?_) (fun c42 => ?_)
    · refine aw_return d_Planner_arrive_50 rfl ?_
      first
        | (have h1 := ab_bl_1.mp c42
           refine ⟨rfl, rfl, nI cu, ⟨kn, mi, me, gs, gg, gr, gf, gb, sz, gk, gt, gp, pl.o_ kn mi me (nI cu) b lim, pa, hp, iv⟩, Or.inr ⟨cu, rfl, Or.inr rfl, hw, lbc, fun r hr hwr => ?_⟩⟩
           rcases hr with hr | hr
           · exact ⟨(g5 r hr hwr).1, rle_tr (Or.inl (hiff.mp h1)) (g5 r hr hwr).2⟩
           · rw [hr]; exact ⟨lbc, Or.inr rfl⟩)
        | (have h1 := ab_bl_0.mp c42
           refine ⟨rfl, rfl, nI g, ⟨kn, mi, me, gs, gg, gr, gf, gb, sz, gk, gt, gp, pl, pa, hp, iv⟩, Or.inr ⟨g, rfl, Or.inl g2, g3, g4, fun r hr hwr => ?_⟩⟩
           rcases hr with hr | hr
           · exact g5 r hr hwr
           · rw [hr]
             refine ⟨lbc, ?_⟩
             rcases rlt_tot (P g) (P cu) hln with y | y | y
             · exact Or.inl y
             · exact Or.inr y
             · have := hiff.mpr y
               rw [h1] at this
               cases this)
        | (have hno := hg.elim (fun z => z.2) (fun ⟨g, e, g2, _⟩ => by
             have b1 := (pt g (Or.inl g2)).1
             rw [c5, fa_eq, nI_toInt (by omega), show ((-1 : Int32)).toInt = -1 from by decide] at e
             omega)
           refine ⟨rfl, rfl, nI cu, ⟨kn, mi, me, gs, gg, gr, gf, gb, sz, gk, gt, gp, pl.o_ kn mi me (nI cu) b lim, pa, hp, iv⟩, Or.inr ⟨cu, rfl, Or.inr rfl, hw, lbc, fun r hr hwr => ?_⟩⟩
           rcases hr with hr | hr
           · rw [hno r hr] at hwr
             cases hwr
           · rw [hr]; exact ⟨lbc, Or.inr rfl⟩)
    · refine aw_aload_n d_Planner_arrive_45 rfl ?_
      refine aw_iload_n d_Planner_arrive_46 rfl ?_
      refine aw_put (k := 6) (fs' := [.int (ab_bl kn), .int mi, .int me, .ref 36, .ref 2, .int (nI b), .int (nI cu), .int (nI lim), .ref 37, .ref 38, .ref 39, .ref 40, .ref 41, .ref 45, .ref 46]) d_Planner_arrive_47 cl_Planner k_Planner_53 (by decide) rfl ⟨rfl, rfl⟩ o35 (Nat.le_of_ble_eq_true rfl) rfl ?_
      refine aw_return d_Planner_arrive_50 rfl ?_
      first
        | (have h1 := ab_bl_1.mp c42
           refine ⟨rfl, rfl, nI cu, ⟨kn, mi, me, gs, gg, gr, gf, gb, sz, gk, gt, gp, pl.o_ kn mi me (nI cu) b lim, pa, hp, iv⟩, Or.inr ⟨cu, rfl, Or.inr rfl, hw, lbc, fun r hr hwr => ?_⟩⟩
           rcases hr with hr | hr
           · exact ⟨(g5 r hr hwr).1, rle_tr (Or.inl (hiff.mp h1)) (g5 r hr hwr).2⟩
           · rw [hr]; exact ⟨lbc, Or.inr rfl⟩)
        | (have h1 := ab_bl_0.mp c42
           refine ⟨rfl, rfl, nI g, ⟨kn, mi, me, gs, gg, gr, gf, gb, sz, gk, gt, gp, pl, pa, hp, iv⟩, Or.inr ⟨g, rfl, Or.inl g2, g3, g4, fun r hr hwr => ?_⟩⟩
           rcases hr with hr | hr
           · exact g5 r hr hwr
           · rw [hr]
             refine ⟨lbc, ?_⟩
             rcases rlt_tot (P g) (P cu) hln with y | y | y
             · exact Or.inl y
             · exact Or.inr y
             · have := hiff.mpr y
               rw [h1] at this
               cases this)
        | (have hno := hg.elim (fun z => z.2) (fun ⟨g, e, g2, _⟩ => by
             have b1 := (pt g (Or.inl g2)).1
             rw [c5, fa_eq, nI_toInt (by omega), show ((-1 : Int32)).toInt = -1 from by decide] at e
             omega)
           refine ⟨rfl, rfl, nI cu, ⟨kn, mi, me, gs, gg, gr, gf, gb, sz, gk, gt, gp, pl.o_ kn mi me (nI cu) b lim, pa, hp, iv⟩, Or.inr ⟨cu, rfl, Or.inr rfl, hw, lbc, fun r hr hwr => ?_⟩⟩
           rcases hr with hr | hr
           · rw [hno r hr] at hwr
             cases hwr
           · rw [hr]; exact ⟨lbc, Or.inr rfl⟩)
theorem rv1 (a : Nat) (q : List Nat) : ((a :: q).reverse).getD q.length 0 = a := by
  rw [List.reverse_cons, List.getD_eq_getElem?_getD, List.getElem?_append_right (by rw [List.length_reverse]; exact Nat.le_refl _), List.length_reverse, Nat.sub_self]
  rfl
theorem rv2 (a : Nat) (q : List Nat) {i : Nat} (h : i < q.length) : ((a :: q).reverse).getD i 0 = q.reverse.getD i 0 := by
  rw [List.reverse_cons, List.getD_eq_getElem?_getD, List.getD_eq_getElem?_getD, List.getElem?_append_left (by rw [List.length_reverse]; exact h)]
theorem c_tell {m : Nat} {h hh : ab_H} {N : NS} (hX : NX h 2 N) {kn : Bool} {mi : Int32} {me : Int32} {b : Nat} {go : Int32} {lim : Nat} {gs : Nat → Int32} {gg : Nat → Int32} {gr : Nat → Int32} {gf : Nat → Int32} {gb : Nat → Int32} {sz : Nat} {gk : Nat → Int32} {gt : Nat → Int32} {gp : Nat → Int32} {gi : Nat → Int32} {gm : Nat → Int32} {g : Nat} (pl : PL h hh kn mi me b (nI g) lim gs gg gr gf gb sz gk gt gp gi gm) {cl : Nat → Prop} {M : Nat → Nat} {P : Nat → List Nat} {F J : Nat → Nat} {r0 : Nat} (pt : PT cl P F J r0 gf gb) (hcg : cl g) {n : Nat} (en : (P g).length = n) (hgg : gg g = nI (1024 * M g + n)) (hB : (1024 * M g + n) ≤ 1592525520) : ab_C Y_Planner_tell [.ref 35] m hh (fun r9 m2 h2 => r9 = none ∧ m2 = m ∧ ∃ gs2 : Nat → Int32, PL h h2 kn (nI (M g)) (nI n) b (nI g) lim gs2 gg gr gf gb sz gk gt gp gi gm ∧ ∀ i, i < n → gs2 i = nI (mtA ((P g).reverse.getD i 0))) := by
  obtain ⟨o35, o36, o37, o38, o39, o40, o41, o42, o43, o44, o45, o46, ofr⟩ := id pl
  have nX : NX hh 2 N := hX.fr (fun k _ _ => ofr k (by omega))
  have n0 := nX.1
  obtain ⟨g7, n7, _⟩ := pt g hcg
  rw [en] at n7
  refine ab_C.of (L := [some (.ref 35), none, none]) rfl rfl (Nat.le_of_ble_eq_true rfl) (fun l => ?_)
  have loop : ∀ q, ∀ (t : Nat) (hh : ab_H) (gs : Nat → Int32) (v : Int32), (P t).length = q → cl t → ((q = 0 ∧ v < 0) ∨ ∃ q2, q = q2 + 1 ∧ v = nI q2) → PL h hh kn (nI (M g)) (nI n) b (nI g) lim gs gg gr gf gb sz gk gt gp gi gm → (∀ i, q ≤ i → i < n → gs i = nI (mtA ((P g).reverse.getD i 0))) → (∀ i, i < q → nI (mtA ((P g).reverse.getD i 0)) = nI (mtA ((P t).reverse.getD i 0))) → q ≤ n → ab_W Y_Planner_tell none l (fun r9 m2 h2 => r9 = none ∧ m2 = m ∧ ∃ gs2 : Nat → Int32, PL h h2 kn (nI (M g)) (nI n) b (nI g) lim gs2 gg gr gf gb sz gk gt gp gi gm ∧ ∀ i, i < n → gs2 i = nI (mtA ((P g).reverse.getD i 0))) 56 [some (.ref 35), some (.int (nI t)), some (.int v)] [] m hh (0, 0) := by
    intro q
    induction q with
    | zero =>
      intro t hh gs v hl ht hv pl hdn htg hqn
      obtain ⟨o35, o36, o37, o38, o39, o40, o41, o42, o43, o44, o45, o46, ofr⟩ := id pl
      have nX : NX hh 2 N := hX.fr (fun k _ _ => ofr k (by omega))
      have n0 := nX.1
      have hv : v < 0 := hv.elim (fun z => z.2) (fun ⟨q2, e, _⟩ => by omega)
      refine aw_iload_n d_Planner_tell_56 rfl ?_
      refine aw_if_lt (tgt := 89) d_Planner_tell_57 (by decide) (fun c57 => ?_) (fun c57 => ?_)
      · refine aw_return d_Planner_tell_89 rfl ?_
        exact ⟨rfl, rfl, gs, pl, fun i hi => hdn i (Nat.zero_le _) hi⟩
      · exact absurd hv c57
    | succ q ih =>
      intro t hh gs v hl ht hv pl hdn htg hqn
      obtain ⟨o35, o36, o37, o38, o39, o40, o41, o42, o43, o44, o45, o46, ofr⟩ := id pl
      have nX : NX hh 2 N := hX.fr (fun k _ _ => ofr k (by omega))
      have n0 := nX.1
      obtain rfl : v = nI q := hv.elim (fun z => by omega) (fun ⟨q2, e, e2⟩ => by rw [e2, show q2 = q by omega])
      obtain ⟨t1, t2, t3⟩ := pt t ht
      obtain ⟨z1, z2, z3, z4, z5, z6⟩ := t3.elim (fun z => by rw [z.1, List.length_nil] at hl; omega) id
      rw [z1, List.length_cons] at hl
      refine aw_iload_n d_Planner_tell_56 rfl ?_
      refine aw_if_lt (tgt := 89) d_Planner_tell_57 (by decide) (fun c57 => ?_) (fun c57 => ?_)
      · exact absurd c57 (nI_n0 (by omega))
      · refine aw_iload_n d_Planner_tell_60 rfl ?_
        refine aw_if_lt (tgt := 89) d_Planner_tell_61 (by decide) (fun c61 => ?_) (fun c61 => ?_)
        · exact absurd c61 (nI_n0 (by omega))
        · refine aw_aload_n d_Planner_tell_64 rfl ?_
          refine aw_get (k := 3) d_Planner_tell_65 cl_Planner k_Planner_9 (by decide) o35 rfl ?_
          refine aw_iload_n d_Planner_tell_68 rfl ?_
          refine aw_aload_n d_Planner_tell_69 rfl ?_
          refine aw_get (k := 11) d_Planner_tell_70 cl_Planner k_Planner_24 (by decide) o35 rfl ?_
          refine aw_iload_n d_Planner_tell_73 rfl ?_
          refine aw_ialoadN d_Planner_tell_74 o40 t1 (by decide) ?_
          rw [z6]
          refine aw_iastoreN d_Planner_tell_75 o36 (by omega) (by decide) ?_
          refine aw_gen (fun z => PL h z kn (nI (M g)) (nI n) b (nI g) lim (upd gs q (nI (mtA (J t)))) gg gr gf gb sz gk gt gp gi gm) (pl.s36 _) (fun hh pl => ?_)
          obtain ⟨o35, o36, o37, o38, o39, o40, o41, o42, o43, o44, o45, o46, ofr⟩ := id pl
          have nX : NX hh 2 N := hX.fr (fun k _ _ => ofr k (by omega))
          have n0 := nX.1
          refine aw_aload_n d_Planner_tell_76 rfl ?_
          refine aw_get (k := 10) d_Planner_tell_77 cl_Planner k_Planner_21 (by decide) o35 rfl ?_
          refine aw_iload_n d_Planner_tell_80 rfl ?_
          refine aw_ialoadN d_Planner_tell_81 o39 t1 (by decide) ?_
          rw [z5]
          refine aw_istore_n (L' := [some (.ref 35), some (.int (nI (F t))), some (.int (nI q))]) d_Planner_tell_82 ⟨by decide, rfl⟩ rfl ?_
          obtain ⟨v83, ev83⟩ : ∃ z : Int32, z = nI q + Int32.ofInt (-1) := ⟨_, rfl⟩
          refine aw_iinc (v := v83) (L' := [some (.ref 35), some (.int (nI (F t))), some (.int v83)]) d_Planner_tell_83 rfl ev83.symm ⟨by decide, rfl⟩ rfl ?_
          refine aw_goto (tgt := 56) d_Planner_tell_86 (by decide) ?_
          refine ih (F t) hh _ _ (by omega) z2 ?_ pl (fun i h1 h2 => ?_) (fun i hi => ?_) (by omega)
          · rw [ev83, nI_dec]
            by_cases e : q = 0
            · rw [e]
              exact Or.inl ⟨rfl, nI_1lt⟩
            · exact Or.inr ⟨q - 1, by omega, pk_sub (by omega)⟩
          · by_cases e : i = q
            · rw [e, pk_us, htg q (by omega), z1]
              rw [show q = (P (F t)).length by omega, rv1]
            · rw [pk_un e]
              exact hdn i (by omega) h2
          · rw [htg i (by omega), z1, rv2 _ _ (by omega)]
  refine aw_aload_n d_Planner_tell_0 rfl ?_
  refine aw_get (k := 6) d_Planner_tell_1 cl_Planner k_Planner_53 (by decide) o35 rfl ?_
  refine aw_istore_n (L' := [some (.ref 35), some (.int (nI g)), none]) d_Planner_tell_4 ⟨by decide, rfl⟩ rfl ?_
  refine aw_aload_n d_Planner_tell_5 rfl ?_
  refine aw_iload_n d_Planner_tell_6 rfl ?_
  refine aw_if_ge (tgt := 14) d_Planner_tell_7 (by decide) (fun c7 => ?_) (fun c7 => ?_)
  · refine aw_aload_n d_Planner_tell_14 rfl ?_
    refine aw_get (k := 8) d_Planner_tell_15 cl_Planner k_Planner_15 (by decide) o35 rfl ?_
    refine aw_iload_n d_Planner_tell_18 rfl ?_
    refine aw_ialoadN d_Planner_tell_19 o37 g7 (by decide) ?_
    rw [hgg]
    refine aw_sipush (v := nI 1024) d_Planner_tell_20 (by decide) ?_
    refine aw_idiv d_Planner_tell_23 (by decide) ?_
    rw [dv (by omega) (by decide) (by decide), show (1024 * M g + n) / 1024 = M g by omega]
    refine aw_put (k := 1) (fs' := [.int (ab_bl kn), .int (nI (M g)), .int me, .ref 36, .ref 2, .int (nI b), .int (nI g), .int (nI lim), .ref 37, .ref 38, .ref 39, .ref 40, .ref 41, .ref 45, .ref 46]) d_Planner_tell_24 cl_Planner k_Planner_183 (by decide) rfl ⟨rfl, rfl⟩ o35 (Nat.le_of_ble_eq_true rfl) rfl ?_
    refine aw_gen (fun z => PL h z kn (nI (M g)) me b (nI g) lim gs gg gr gf gb sz gk gt gp gi gm) (pl.o_ kn (nI (M g)) me (nI g) b lim) (fun hh pl => ?_)
    obtain ⟨o35, o36, o37, o38, o39, o40, o41, o42, o43, o44, o45, o46, ofr⟩ := id pl
    have nX : NX hh 2 N := hX.fr (fun k _ _ => ofr k (by omega))
    have n0 := nX.1
    refine aw_aload_n d_Planner_tell_27 rfl ?_
    refine aw_iload_n d_Planner_tell_28 rfl ?_
    refine aw_if_ge (tgt := 36) d_Planner_tell_29 (by decide) (fun c29 => ?_) (fun c29 => ?_)
    · refine aw_aload_n d_Planner_tell_36 rfl ?_
      refine aw_get (k := 8) d_Planner_tell_37 cl_Planner k_Planner_15 (by decide) o35 rfl ?_
      refine aw_iload_n d_Planner_tell_40 rfl ?_
      refine aw_ialoadN d_Planner_tell_41 o37 g7 (by decide) ?_
      rw [hgg]
      refine aw_sipush (v := nI 1024) d_Planner_tell_42 (by decide) ?_
      refine aw_irem d_Planner_tell_45 (by decide) ?_
      rw [rm (by omega) (by decide) (by decide), show (1024 * M g + n) % 1024 = n by omega]
      refine aw_put (k := 2) (fs' := [.int (ab_bl kn), .int (nI (M g)), .int (nI n), .ref 36, .ref 2, .int (nI b), .int (nI g), .int (nI lim), .ref 37, .ref 38, .ref 39, .ref 40, .ref 41, .ref 45, .ref 46]) d_Planner_tell_46 cl_Planner k_Planner_186 (by decide) rfl ⟨rfl, rfl⟩ o35 (Nat.le_of_ble_eq_true rfl) rfl ?_
      refine aw_gen (fun z => PL h z kn (nI (M g)) (nI n) b (nI g) lim gs gg gr gf gb sz gk gt gp gi gm) (pl.o_ kn (nI (M g)) (nI n) (nI g) b lim) (fun hh pl => ?_)
      obtain ⟨o35, o36, o37, o38, o39, o40, o41, o42, o43, o44, o45, o46, ofr⟩ := id pl
      have nX : NX hh 2 N := hX.fr (fun k _ _ => ofr k (by omega))
      have n0 := nX.1
      refine aw_aload_n d_Planner_tell_49 rfl ?_
      refine aw_get (k := 2) d_Planner_tell_50 cl_Planner k_Planner_186 (by decide) o35 rfl ?_
      refine aw_iconst (v := nI 1) d_Planner_tell_53 (by decide) ?_
      refine aw_isub d_Planner_tell_54 ?_
      refine aw_topi (fun v55 ev55 => ?_)
      refine aw_istore_n (L' := [some (.ref 35), some (.int (nI g)), some (.int v55)]) d_Planner_tell_55 ⟨by decide, rfl⟩ rfl ?_
      refine loop n g hh gs _ en hcg ?_ pl (fun i h1 h2 => absurd h2 (by omega)) (fun i _ => rfl) (Nat.le_refl _)
      rw [ev55]
      by_cases e : n = 0
      · rw [e]
        exact Or.inl ⟨rfl, nI_1lt⟩
      · exact Or.inr ⟨n - 1, by omega, pk_sub (by omega)⟩
    · exact absurd (show nI 0 ≤ nI g from nI_le (Nat.zero_le _) (by omega)) c29
  · exact absurd (show nI 0 ≤ nI g from nI_le (Nat.zero_le _) (by omega)) c7
