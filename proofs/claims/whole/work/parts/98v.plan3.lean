/-- what is known of the plan -/
def PV (N : NS) (mi me : Int32) (g : Nat → Int32) : Prop := ∃ js m, BP N (N_t N) js m ∧ mi = nI m ∧ me = nI js.length ∧ js.length < 720 ∧ ∀ i, i < js.length → g i = nI (mtA (js.getD i 0))
theorem GO.mv {b lim lim2 : Nat} {cl : Nat → Prop} {M M2 : Nat → Nat} {P P2 : Nat → List Nat} {go : Int32} (hg : GO b lim cl M P go) {r kc : Nat} (now : ow (xr r) b = false) (h1 : lim2 ≤ lim) (h2 : lim2 = lim ∨ kc < lim2) (hcl : ∀ z, (cl z ∨ z = r) → M2 z = M z ∧ P2 z = P z) (hk : ∀ z, cl z → 1024 * M z + (P z).length ≤ kc) : GO b lim2 (fun z => cl z ∨ z = r) M2 P2 go := by
  rcases hg with ⟨e, hno⟩ | ⟨g, e, g2, g3, g4, g5⟩
  · refine Or.inl ⟨e, fun z hz => ?_⟩
    rcases hz with hz | hz
    · exact hno z hz
    · rw [hz]; exact now
  · have g4 : 1024 * M g + (P g).length = lim := g4
    have hkg := hk g g2
    have el : lim2 = lim := h2.elim id (fun z => by omega)
    obtain ⟨m1, m2⟩ := hcl g (Or.inl g2)
    refine Or.inr ⟨g, e, Or.inl g2, g3, ?_, fun z hz hw => ?_⟩
    · show 1024 * M2 g + (P2 g).length = lim2
      rw [m1, m2, el]; exact g4
    · rcases hz with hz | hz
      · obtain ⟨n1, n2⟩ := hcl z (Or.inl hz)
        rw [m2, n2]
        refine ⟨?_, (g5 z hz hw).2⟩
        show 1024 * M2 z + (P2 z).length = lim2
        rw [n1, n2, el]
        exact (g5 z hz hw).1
      · rw [hz, now] at hw; cases hw
theorem PX.pn {V : VV} {m : Nat} {h h2 : ab_H} {S : SS} (hX : PX V m h S) (q : ∀ k, k < 35 ∨ 46 < k → h2 k = h k) (r : PXp V h2 (S_N S)) : PX V m h2 S := by
  obtain ⟨p0, p1, p2, p3, p4, p5, p6, p7⟩ := hX
  exact ⟨p0.fr (fun k _ _ => q k (by omega)), p1.fr (fun k _ _ => q k (by omega)), p2.fr (fun k _ _ => q k (by omega)), p3.fr (fun k _ _ => q k (by omega)), r, p5.fr (fun k _ _ => q k (by omega)), p6.fr (fun k _ _ => q k (by omega)), p7.fr (fun k _ => q k (by omega))⟩
theorem c_Planner_reckon {m : Nat} {h : ab_H} {N : NS} (hX : NX h 2 N) (ok : N_ok N) {kn : Bool} {mi me : Int32} {nv : Value} {bo go li sz : Int32} {gs gg gr gf gb gk gt gp gi gm : Nat → Int32} (h35 : h 35 = oP kn mi me nv bo go li) (h36 : h 36 = .inl (720, gs)) (h37 : h 37 = .inl (720, gg)) (h38 : h 38 = .inl (720, gr)) (h39 : h 39 = .inl (720, gf)) (h40 : h 40 = .inl (720, gb)) (h41 : h 41 = oH sz) (h42 : h 42 = .inl (720, gk)) (h43 : h 43 = .inl (720, gt)) (h44 : h 44 = .inl (720, gp)) (h45 : h 45 = .inl (64, gi)) (h46 : h 46 = .inl (64, gm)) : ab_C Y_Planner_reckon [.ref 35, .ref 2] m h (fun r9 m2 h2 => r9 = none ∧ m2 = m ∧ ∃ (mi : Int32) (me : Int32) (b : Nat) (go : Int32) (lim : Nat) (gs : Nat → Int32) (gg : Nat → Int32) (gr : Nat → Int32) (gf : Nat → Int32) (gb : Nat → Int32) (sz : Nat) (gk : Nat → Int32) (gt : Nat → Int32) (gp : Nat → Int32) (gi : Nat → Int32) (gm : Nat → Int32), PL h h2 true mi me b go lim gs gg gr gf gb sz gk gt gp gi gm ∧ PV N mi me gs) := by
  have hn6 := ok.1
  have n0 := hX.1
  obtain ⟨b, eb⟩ : ∃ b, bnd (N_n N) (N_w N) (N_t N) = b := ⟨_, rfl⟩
  have hb6 : b < 64 := by rw [← eb]; exact bnd_lt _ _ _ hn6
  refine ab_C.of (L := [some (.ref 35), some (.ref 2), none, none]) rfl rfl (Nat.le_of_ble_eq_true rfl) (fun l => ?_)
  refine aw_aload_n d_Planner_reckon_0 rfl ?_
  refine aw_aload_n d_Planner_reckon_1 rfl ?_
  refine aw_put (k := 4) (fs' := [.int (ab_bl kn), .int mi, .int me, .ref 36, .ref 2, .int bo, .int go, .int li, .ref 37, .ref 38, .ref 39, .ref 40, .ref 41, .ref 45, .ref 46]) d_Planner_reckon_2 cl_Planner k_Planner_40 (by decide) rfl ⟨rfl, rfl⟩ h35 (Nat.le_of_ble_eq_true rfl) rfl ?_
  refine aw_aload_n d_Planner_reckon_5 rfl ?_
  refine aw_aload_n d_Planner_reckon_6 rfl ?_
  refine aw_v0i (a := 2) d_Planner_reckon_7 k_Planner_44 ok_Night_bound rfl ⟨rfl, rfl⟩ cl_Night n0 (c_bound n0 hn6 ok.pm ok.w6) rfl rfl (Nat.le_of_ble_eq_true rfl) ?_
  rw [eb]
  refine aw_put (k := 5) (fs' := [.int (ab_bl kn), .int mi, .int me, .ref 36, .ref 2, .int (nI b), .int go, .int li, .ref 37, .ref 38, .ref 39, .ref 40, .ref 41, .ref 45, .ref 46]) d_Planner_reckon_10 cl_Planner k_Planner_50 (by decide) rfl ⟨rfl, rfl⟩ rfl (Nat.le_of_ble_eq_true rfl) rfl ?_
  refine aw_aload_n d_Planner_reckon_13 rfl ?_
  refine aw_iconst (v := (-1)) d_Planner_reckon_14 (by decide) ?_
  refine aw_put (k := 6) (fs' := [.int (ab_bl kn), .int mi, .int me, .ref 36, .ref 2, .int (nI b), .int (-1), .int li, .ref 37, .ref 38, .ref 39, .ref 40, .ref 41, .ref 45, .ref 46]) d_Planner_reckon_15 cl_Planner k_Planner_53 (by decide) rfl ⟨rfl, rfl⟩ rfl (Nat.le_of_ble_eq_true rfl) rfl ?_
  refine aw_aload_n d_Planner_reckon_18 rfl ?_
  refine aw_ldc (v := nI 2147483647) d_Planner_reckon_19 k_Planner_56 ?_
  refine aw_put (k := 7) (fs' := [.int (ab_bl kn), .int mi, .int me, .ref 36, .ref 2, .int (nI b), .int (-1), .int (nI 2147483647), .ref 37, .ref 38, .ref 39, .ref 40, .ref 41, .ref 45, .ref 46]) d_Planner_reckon_21 cl_Planner k_Planner_57 (by decide) rfl ⟨rfl, rfl⟩ rfl (Nat.le_of_ble_eq_true rfl) rfl ?_
  refine aw_aload_n d_Planner_reckon_24 rfl ?_
  refine aw_get (k := 8) d_Planner_reckon_25 cl_Planner k_Planner_15 (by decide) rfl rfl ?_
  refine aw_iconst (v := (-1)) d_Planner_reckon_28 (by decide) ?_
  refine aw_s0v d_Planner_reckon_29 k_Planner_60 ok_JA_fill rfl ⟨rfl, rfl⟩ (c_fill (a := 37) (n := 720) (g := gg) (by exact h37) (by decide) (-1)) rfl rfl (Nat.le_of_ble_eq_true rfl) ?_
  refine aw_aload_n d_Planner_reckon_32 rfl ?_
  refine aw_get (k := 12) d_Planner_reckon_33 cl_Planner k_Planner_30 (by decide) rfl rfl ?_
  refine aw_iconst (v := nI 0) d_Planner_reckon_36 (by decide) ?_
  refine aw_put (k := 0) (fs' := [.int (nI 0), .ref 42, .ref 43, .ref 44]) d_Planner_reckon_37 cl_Heap k_Planner_66 (by decide) rfl ⟨rfl, rfl⟩ h41 (Nat.le_of_ble_eq_true rfl) rfl ?_
  refine aw_gen (fun z => PL h z kn mi me b ((-1)) 2147483647 gs (fa_fill (fun _ => -1) gg 720) gr gf gb 0 gk gt gp gi gm) (⟨rfl, h36, rfl, h38, h39, h40, rfl, h42, h43, h44, h45, h46, fun k hk => by rw [ab_set_ne (by omega), ab_set_ne (by omega), ab_set_ne (by omega), ab_set_ne (by omega), ab_set_ne (by omega), ab_set_ne (by omega)]⟩) (fun hh pl => ?_)
  obtain ⟨o35, o36, o37, o38, o39, o40, o41, o42, o43, o44, o45, o46, ofr⟩ := id pl
  have nX : NX hh 2 N := hX.fr (fun k _ _ => ofr k (by omega))
  have n0 := nX.1
  refine aw_aload_n d_Planner_reckon_40 rfl ?_
  refine aw_v0 (a := 35) d_Planner_reckon_41 k_Planner_69 ok_Planner_chooseInns rfl ⟨rfl, rfl⟩ cl_Planner o35 (c_chooseInns hX ok pl) rfl rfl (Nat.le_of_ble_eq_true rfl) (fun r9 m2 h2 z => ?_)
  obtain ⟨rfl, em, gi, gm, pl, ins⟩ := z
  rw [em]
  show ab_W _ _ _ _ 44 _ [] _ _ _
  refine aw_gen (fun z => PL h z kn mi me b ((-1)) 2147483647 gs (fa_fill (fun _ => -1) gg 720) gr gf gb 0 gk gt gp gi gm) pl (fun hh pl => ?_)
  obtain ⟨o35, o36, o37, o38, o39, o40, o41, o42, o43, o44, o45, o46, ofr⟩ := id pl
  have nX : NX hh 2 N := hX.fr (fun k _ _ => ofr k (by omega))
  have n0 := nX.1
  refine aw_aload_n d_Planner_reckon_44 rfl ?_
  refine aw_iconst (v := (-1)) d_Planner_reckon_45 (by decide) ?_
  refine aw_iconst (v := nI 0) d_Planner_reckon_46 (by decide) ?_
  refine aw_aload_n d_Planner_reckon_47 rfl ?_
  refine aw_get (k := 6) d_Planner_reckon_48 cl_Night k_Planner_72 (by decide) n0 rfl ?_
  refine aw_iconst (v := nI 0) d_Planner_reckon_51 (by decide) ?_
  refine aw_v0 (a := 35) d_Planner_reckon_52 k_Planner_75 ok_Planner_reach rfl ⟨rfl, rfl⟩ cl_Planner o35 (c_reach0 hX ok eb pl (fun z hz => fa_fill_in hz)) rfl rfl (Nat.le_of_ble_eq_true rfl) (fun r9 m2 h2 z => ?_)
  obtain ⟨rfl, em, lim2, qs⟩ := z
  rw [em]
  show ab_W _ _ _ _ 55 _ [] _ _ _
  refine aw_iconst (v := nI 0) d_Planner_reckon_55 (by decide) ?_
  refine aw_istore_n (L' := [some (.ref 35), some (.ref 2), some (.int (nI 0)), none]) d_Planner_reckon_56 ⟨by decide, rfl⟩ rfl ?_
  have endd : ∀ (hh : ab_H) (kn : Bool) (mi me : Int32) (gs gg gr gf gb : Nat → Int32) (sz : Nat) (gk gt gp : Nat → Int32) (K cu kc lim : Nat) (go : Int32) (sn cl : Nat → Prop) (M : Nat → Nat) (P : Nat → List Nat) (F J : Nat → Nat) (v2 v3 : Option Value), PL h hh kn mi me b go lim gs gg gr gf gb sz gk gt gp gi gm → PA sn M P F J gg gr gf gb → IV N b K cu (fun _ => True) kc lim sn cl M P F J → (∀ r, sn r → kyf N b M P r ≤ lim → cl r) → GO b lim cl M P go → cl (rk (N_t N)) → ab_W Y_Planner_reckon none l (fun r9 m2 h2 => r9 = none ∧ m2 = m ∧ ∃ (mi : Int32) (me : Int32) (b : Nat) (go : Int32) (lim : Nat) (gs : Nat → Int32) (gg : Nat → Int32) (gr : Nat → Int32) (gf : Nat → Int32) (gb : Nat → Int32) (sz : Nat) (gk : Nat → Int32) (gt : Nat → Int32) (gp : Nat → Int32) (gi : Nat → Int32) (gm : Nat → Int32), PL h h2 true mi me b go lim gs gg gr gf gb sz gk gt gp gi gm ∧ PV N mi me gs) 146 [some (.ref 35), some (.ref 2), v2, v3] [] m hh (0, 0) := by
    intro hh kn mi me gs gg gr gf gb sz gk gt gp K cu kc lim go sn cl M P F J v2 v3 pl pa iv tm hg h0
    obtain ⟨g, eg, g2, bp⟩ := iv.plan_ ok eb tm h0 hg
    subst eg
    have pt := iv.pt pa
    obtain ⟨g7, n7, _⟩ := pt g g2
    have hsg := (iv.2.1 g g2).1
    have hgg := ((pa g g7).2 hsg).1
    have hB := iv.lb_ hsg
    obtain ⟨n, en⟩ : ∃ n, (P g).length = n := ⟨_, rfl⟩
    have hgg : gg g = nI (1024 * M g + n) := by rw [← en]; exact hgg
    rw [en] at hB n7
    refine aw_aload_n d_Planner_reckon_146 rfl ?_
    refine aw_v0 (a := 35) d_Planner_reckon_147 k_Planner_104 ok_Planner_tell rfl ⟨rfl, rfl⟩ cl_Planner pl.1 (c_tell (go := 0) hX pl pt g2 en hgg hB) rfl rfl (Nat.le_of_ble_eq_true rfl) (fun r9 m2 h2 z => ?_)
    obtain ⟨rfl, em, gs2, pl, htg⟩ := z
    rw [em]
    show ab_W _ _ _ _ 150 _ [] _ _ _
    refine aw_aload_n d_Planner_reckon_150 rfl ?_
    refine aw_iconst (v := nI 1) d_Planner_reckon_151 (by decide) ?_
    refine aw_put (k := 0) (fs' := [.int (nI 1), .int (nI (M g)), .int (nI n), .ref 36, .ref 2, .int (nI b), .int (nI g), .int (nI lim), .ref 37, .ref 38, .ref 39, .ref 40, .ref 41, .ref 45, .ref 46]) d_Planner_reckon_152 cl_Planner k_Planner_107 (by decide) rfl ⟨rfl, rfl⟩ pl.1 (Nat.le_of_ble_eq_true rfl) rfl ?_
    refine aw_return d_Planner_reckon_155 rfl ?_
    refine ⟨rfl, rfl, _, _, _, _, _, _, _, _, _, _, _, _, _, _, _, _, pl.o_ true (nI (M g)) (nI n) (nI g) b lim, (P g).reverse, M g, bp, rfl, by rw [List.length_reverse, en], by rw [List.length_reverse, en]; exact n7, fun i hi => ?_⟩
    rw [List.length_reverse, en] at hi
    exact htg i hi
  have loop : ∀ kf, ∀ (K : Nat) (hh : ab_H) (cu kc lim : Nat) (go : Int32) (sn cl : Nat → Prop) (M : Nat → Nat) (P : Nat → List Nat) (F J : Nat → Nat), K + kf = 720 → QS N b h hh K cu (fun _ => True) kc lim go gi gm sn cl M P F J → GO b lim cl M P go → ((K = 0 ∧ ∀ z, sn z → z = (rk (N_t N))) ∨ cl (rk (N_t N))) → ab_W Y_Planner_reckon none l (fun r9 m2 h2 => r9 = none ∧ m2 = m ∧ ∃ (mi : Int32) (me : Int32) (b : Nat) (go : Int32) (lim : Nat) (gs : Nat → Int32) (gg : Nat → Int32) (gr : Nat → Int32) (gf : Nat → Int32) (gb : Nat → Int32) (sz : Nat) (gk : Nat → Int32) (gt : Nat → Int32) (gp : Nat → Int32) (gi : Nat → Int32) (gm : Nat → Int32), PL h h2 true mi me b go lim gs gg gr gf gb sz gk gt gp gi gm ∧ PV N mi me gs) 57 [some (.ref 35), some (.ref 2), some (.int (nI K)), none] [] m hh (0, 0) := by
    intro kf
    induction kf with
    | zero =>
      intro K hh cu kc lim go sn cl M P F J hK qs hg rt
      have eK : K = 720 := by omega
      subst eK
      obtain ⟨kn, mi, me, gs, gg, gr, gf, gb, sz, gk, gt, gp, pl, pa, hp, iv⟩ := id qs
      obtain ⟨o35, o36, o37, o38, o39, o40, o41, o42, o43, o44, o45, o46, ofr⟩ := id pl
      have nX : NX hh 2 N := hX.fr (fun k _ _ => ofr k (by omega))
      have n0 := nX.1
      have hlimB := iv.lim_
      refine aw_iload_n d_Planner_reckon_57 rfl ?_
      refine aw_sipush (v := nI 720) d_Planner_reckon_58 (by decide) ?_
      refine aw_icmp_ge (tgt := 146) d_Planner_reckon_61 (by decide) (fun c61 => ?_) (fun c61 => ?_)
      · refine endd hh kn mi me gs gg gr gf gb sz gk gt gp 720 cu kc lim go sn cl M P F J _ _ pl pa iv (fun z hz _ => ?_) hg (rt.elim (fun z => by omega) id)
        obtain ⟨o, o1, o2⟩ := iv.2.2.2.2.2.2.1
        obtain ⟨i, hi, ei⟩ := fb_onto (n := 720) (f := o) (fun i hi => (iv.1 _ (iv.2.1 _ (o1 i hi)).1).1) o2 (iv.1 z hz).1
        rw [← ei]
        exact o1 i hi
      · exact absurd (Int32.le_refl _) c61
    | succ kf ih =>
      intro K hh cu kc lim go sn cl M P F J hK qs hg rt
      obtain ⟨kn, mi, me, gs, gg, gr, gf, gb, sz, gk, gt, gp, pl, pa, hp, iv⟩ := id qs
      obtain ⟨o35, o36, o37, o38, o39, o40, o41, o42, o43, o44, o45, o46, ofr⟩ := id pl
      have nX : NX hh 2 N := hX.fr (fun k _ _ => ofr k (by omega))
      have n0 := nX.1
      have hlimB := iv.lim_
      refine aw_iload_n d_Planner_reckon_57 rfl ?_
      refine aw_sipush (v := nI 720) d_Planner_reckon_58 (by decide) ?_
      refine aw_icmp_ge (tgt := 146) d_Planner_reckon_61 (by decide) (fun c61 => ?_) (fun c61 => ?_)
      · exact absurd c61 (nI_ge (by omega) (by decide))
      · refine aw_aload_n d_Planner_reckon_64 rfl ?_
        refine aw_get (k := 12) d_Planner_reckon_65 cl_Planner k_Planner_30 (by decide) o35 rfl ?_
        refine aw_get (k := 0) d_Planner_reckon_68 cl_Heap k_Planner_66 (by decide) o41 rfl ?_
        refine aw_if_le (tgt := 146) d_Planner_reckon_71 (by decide) (fun c71 => ?_) (fun c71 => ?_)
        · first
            | (have hlt : lim < kr := Nat.not_le.mp (fun z => c95 (nI_le z (by omega)))
               refine endd hh kn mi me gs gg gr gf gb sz' gk gt2 gp2 K cu kc lim go sn cl M P F J _ _ pl pa iv (fun z hz hk => Classical.byContradiction (fun y => ?_)) hg (rt.elim (fun z => ?_) id)
               · have := hmin2 z hz y
                 omega
               · exfalso
                 rcases iv.2.2.2.2.2.1 with y | ⟨r1, y1, y2, y3⟩
                 · omega
                 · have e1 := z.2 r1 y1
                   have e2 := z.2 r opr.1
                   rw [e1, ← e2] at y2 y3
                   have h9 : kr = 1024 * M r + (P r).length + 1024 * ffo N (xr r) b (N_n N) := ekr
                   have y3 : 1024 * M r + (P r).length = lim := y3
                   rw [ffo_ow hn6 s2 y2] at h9
                   omega)
            | (have hz0 : sz = 0 := Nat.eq_zero_of_le_zero ((nI_leI (b := 0) (by have := hp.le; omega) (by decide)).mp c71)
               have hno := hp.sz0 hz0
               refine endd hh kn mi me gs gg gr gf gb sz gk gt gp K cu kc lim go sn cl M P F J _ _ pl pa iv (fun z hz hk => Classical.byContradiction (fun y => hno z ⟨hz, y⟩)) hg (rt.elim (fun z => ?_) id)
               exfalso
               refine hno (rk (N_t N)) ⟨iv.2.2.2.2.2.2.2.1, fun y => ?_⟩
               have := (iv.2.1 _ y).2.1
               omega)
        · refine aw_aload_n d_Planner_reckon_74 rfl ?_
          refine aw_get (k := 12) d_Planner_reckon_75 cl_Planner k_Planner_30 (by decide) o35 rfl ?_
          have opn : ∃ sz', sz = sz' + 1 := ⟨sz - 1, by
            have : sz ≠ 0 := fun z => c71 (by rw [z]; decide)
            omega⟩
          obtain ⟨sz', rfl⟩ := opn
          refine aw_v0 (a := 41) d_Planner_reckon_78 k_Planner_79 ok_Heap_take rfl ⟨rfl, rfl⟩ cl_Heap o41 (c_takeH o41 o42 o43 o44 hp) rfl rfl (Nat.le_of_ble_eq_true rfl) (fun r2 m2 h2 z => ?_)
          obtain ⟨r, rfl, opr, hmin, em, gt2, gp2, rfl, hp2⟩ := z
          rw [em]
          show ab_W _ _ _ _ 81 _ [.int (nI r)] _ _ _
          obtain ⟨r7, ek, kB⟩ := hp.k opr
          obtain ⟨kr, ekr⟩ : ∃ z, z = kyf N b M P r := ⟨_, rfl⟩
          rw [← ekr] at ek kB
          obtain ⟨s1, s2, s3, s4, s5, s6, s7⟩ := iv.1 r opr.1
          have pc := (pa r r7).2 opr.1
          have hmin2 : ∀ z, sn z → ¬ cl z → kyf N b M P r ≤ kyf N b M P z := fun z h1 h2 => hmin z ⟨h1, h2⟩
          have ivp := iv.pop_ opr.1 opr.2 hmin2
          rw [← ekr] at ivp
          have hp3 : HP (fun z => sn z ∧ ¬ (cl z ∨ z = r)) (kyf N b M P) sz' gk gt2 gp2 := hp2.cong (fun z => ⟨fun y => ⟨y.1.1, fun w => w.elim y.1.2 y.2⟩, fun y => ⟨⟨y.1, fun w => y.2 (Or.inl w)⟩, fun w => y.2 (Or.inr w)⟩⟩) (fun z _ => ⟨rfl, rfl⟩)
          have c0 : cl (rk (N_t N)) ∨ (rk (N_t N)) = r := rt.elim (fun z => Or.inr (z.2 r opr.1).symm) Or.inl
          refine aw_gen (fun z => PL h z kn mi me b go lim gs gg gr gf gb sz' gk gt2 gp2 gi gm) (pl.hf sz' gk gt2 gp2) (fun hh pl => ?_)
          obtain ⟨o35, o36, o37, o38, o39, o40, o41, o42, o43, o44, o45, o46, ofr⟩ := id pl
          have nX : NX hh 2 N := hX.fr (fun k _ _ => ofr k (by omega))
          have n0 := nX.1
          refine aw_istore_n (L' := [some (.ref 35), some (.ref 2), some (.int (nI K)), some (.int (nI r))]) d_Planner_reckon_81 ⟨by decide, rfl⟩ rfl ?_
          refine aw_aload_n d_Planner_reckon_82 rfl ?_
          refine aw_get (k := 12) d_Planner_reckon_83 cl_Planner k_Planner_30 (by decide) o35 rfl ?_
          refine aw_get (k := 1) d_Planner_reckon_86 cl_Heap k_Planner_82 (by decide) o41 rfl ?_
          refine aw_iload_n d_Planner_reckon_89 rfl ?_
          refine aw_ialoadN d_Planner_reckon_90 o42 r7 (by decide) ?_
          rw [ek]
          refine aw_aload_n d_Planner_reckon_91 rfl ?_
          refine aw_get (k := 7) d_Planner_reckon_92 cl_Planner k_Planner_57 (by decide) o35 rfl ?_
          refine aw_icmp_le (tgt := 101) d_Planner_reckon_95 (by decide) (fun c95 => ?_) (fun c95 => ?_)
          · have hkl : kr ≤ lim := (nI_leI kB (by omega)).mp c95
            refine aw_aload_n d_Planner_reckon_101 rfl ?_
            refine aw_get (k := 9) d_Planner_reckon_102 cl_Planner k_Planner_18 (by decide) o35 rfl ?_
            refine aw_iload_n d_Planner_reckon_105 rfl ?_
            refine aw_ialoadN d_Planner_reckon_106 o38 r7 (by decide) ?_
            rw [pc.2.1]
            refine aw_aload_n d_Planner_reckon_107 rfl ?_
            refine aw_get (k := 5) d_Planner_reckon_108 cl_Planner k_Planner_50 (by decide) o35 rfl ?_
            refine aw_s0i d_Planner_reckon_111 k_Planner_85 ok_Rows_areOwn rfl ⟨rfl, rfl⟩ (c_areOwn s2.1 (by omega)) rfl rfl (Nat.le_of_ble_eq_true rfl) ?_
            refine aw_if_eq (tgt := 125) d_Planner_reckon_114 (by decide) (fun c114 => ?_) (fun c114 => ?_)
            · refine aw_aload_n d_Planner_reckon_125 rfl ?_
              refine aw_iload_n d_Planner_reckon_126 rfl ?_
              have now := ab_bl_0.mp c114
              have qx0 : QX N b h hh (K + 1) r (fun _ => False) kr lim go gi gm (fun z => cl z ∨ z = r) M P := ⟨lim, sn, M, P, F, J, ⟨kn, mi, me, gs, gg, gr, gf, gb, sz', gk, gt2, gp2, pl, pa, hp3, ivp⟩, Nat.le_refl _, Or.inl rfl, fun z _ => ⟨rfl, rfl⟩⟩
              refine aw_v0 (a := 35) d_Planner_reckon_127 k_Planner_95 ok_Planner_goByPairs rfl ⟨rfl, rfl⟩ cl_Planner o35 (c_goByPairs hX ok eb (cl := (fun z => cl z ∨ z = r)) (Or.inr rfl) ekr.symm now qx0) rfl rfl (Nat.le_of_ble_eq_true rfl) (fun r9 m2 h2 z => ?_)
              obtain ⟨rfl, em, qx1⟩ := z
              rw [em]
              obtain ⟨lim1, sn1, M1, P1, F1, J1, qs1, la1, lc1, hcl1⟩ := id qx1
              obtain ⟨kn1, mi1, me1, gs1, gg1, gr1, gf1, gb1, sz1, gk1, gt1', gp1', pl1, pa1, hp1', iv1⟩ := id qs1
              show ab_W _ _ _ _ 130 _ [] _ _ _
              refine aw_aload_n d_Planner_reckon_130 rfl ?_
              refine aw_iload_n d_Planner_reckon_131 rfl ?_
              refine aw_v0 (a := 35) d_Planner_reckon_132 k_Planner_98 ok_Planner_goByInns rfl ⟨rfl, rfl⟩ cl_Planner pl1.1 (c_goByInns hX ok eb (cl := (fun z => cl z ∨ z = r)) (Or.inr rfl) ekr.symm now ins qx1) rfl rfl (Nat.le_of_ble_eq_true rfl) (fun r9 m2 h2 z => ?_)
              obtain ⟨rfl, em, qx2⟩ := z
              rw [em]
              obtain ⟨lim2, sn2, M2, P2, F2, J2, qs2, la2, lc2, hcl2⟩ := id qx2
              obtain ⟨kn2, mi2, me2, gs2, gg2, gr2, gf2, gb2, sz2, gk2, gt2', gp2', pl2, pa2, hp2', iv2⟩ := id qs2
              show ab_W _ _ _ _ 135 _ [] _ _ _
              refine aw_aload_n d_Planner_reckon_135 rfl ?_
              refine aw_iload_n d_Planner_reckon_136 rfl ?_
              refine aw_v0 (a := 35) d_Planner_reckon_137 k_Planner_101 ok_Planner_goByPosts rfl ⟨rfl, rfl⟩ cl_Planner pl2.1 (c_goByPosts hX ok eb (cl := (fun z => cl z ∨ z = r)) (Or.inr rfl) ekr.symm now qx2) rfl rfl (Nat.le_of_ble_eq_true rfl) (fun r9 m2 h2 z => ?_)
              obtain ⟨rfl, em, qx3⟩ := z
              rw [em]
              obtain ⟨lim3, sn3, M3, P3, F3, J3, qs3, la3, lc3, hcl3⟩ := id qx3
              obtain ⟨kn3, mi3, me3, gs3, gg3, gr3, gf3, gb3, sz3, gk3, gt3', gp3', pl3, pa3, hp3', iv3⟩ := id qs3
              show ab_W _ _ _ _ 140 _ [] _ _ _
              refine aw_iinc (v := nI (K + 1)) (L' := [some (.ref 35), some (.ref 2), some (.int (nI (K + 1))), some (.int (nI r))]) d_Planner_reckon_140 rfl (nI_1 _) ⟨by decide, rfl⟩ rfl ?_
              refine aw_goto (tgt := 57) d_Planner_reckon_143 (by decide) ?_
              first
                | (obtain ⟨kn2, mi2, me2, gs2, gg2, gr2, gf2, gb2, sz2, gk2, gt3, gp3, pl2, pa2, hp4, iv2⟩ := qs2
                   exact aw_drop 3 (ih (K + 1) _ r kr lim go2 sn (fun z => cl z ∨ z = r) M P F J (by omega) ⟨kn2, mi2, me2, gs2, gg2, gr2, gf2, gb2, sz2, gk2, gt3, gp3, pl2, pa2, hp4, iv2.well_ hwl⟩ hg2 (Or.inr c0)))
                | (refine aw_drop 3 (ih (K + 1) _ r kr lim3 go sn3 (fun z => cl z ∨ z = r) M3 P3 F3 J3 (by omega) qs3 (hg.mv now la3 lc3 hcl3 (fun z hz => ?_)) (Or.inr c0))
                   have h9 : 1024 * M z + (P z).length + _ ≤ kr := (ivp.2.1 z (Or.inl hz)).2.2
                   omega)
            · refine aw_aload_n d_Planner_reckon_117 rfl ?_
              refine aw_iload_n d_Planner_reckon_118 rfl ?_
              have hwl := ab_bl_1.mp c114
              refine aw_v0 (a := 35) d_Planner_reckon_119 k_Planner_91 ok_Planner_arrive rfl ⟨rfl, rfl⟩ cl_Planner o35 (c_arrive hX (cu := r) (cl := cl) (kc := kr) ⟨kn, mi, me, gs, gg, gr, gf, gb, sz', gk, gt2, gp2, pl, pa, hp3, ivp⟩ hg opr.2 hwl (by rw [← ekr]; exact hkl)) rfl rfl (Nat.le_of_ble_eq_true rfl) (fun r9 m2 h2 z => ?_)
              obtain ⟨rfl, em, go2, qs2, hg2⟩ := z
              rw [em]
              show ab_W _ _ _ _ 122 _ [] _ _ _
              refine aw_goto (tgt := 140) d_Planner_reckon_122 (by decide) ?_
              refine aw_iinc (v := nI (K + 1)) (L' := [some (.ref 35), some (.ref 2), some (.int (nI (K + 1))), some (.int (nI r))]) d_Planner_reckon_140 rfl (nI_1 _) ⟨by decide, rfl⟩ rfl ?_
              refine aw_goto (tgt := 57) d_Planner_reckon_143 (by decide) ?_
              first
                | (obtain ⟨kn2, mi2, me2, gs2, gg2, gr2, gf2, gb2, sz2, gk2, gt3, gp3, pl2, pa2, hp4, iv2⟩ := qs2
                   exact aw_drop 3 (ih (K + 1) _ r kr lim go2 sn (fun z => cl z ∨ z = r) M P F J (by omega) ⟨kn2, mi2, me2, gs2, gg2, gr2, gf2, gb2, sz2, gk2, gt3, gp3, pl2, pa2, hp4, iv2.well_ hwl⟩ hg2 (Or.inr c0)))
                | (refine aw_drop 3 (ih (K + 1) _ r kr lim3 go sn3 (fun z => cl z ∨ z = r) M3 P3 F3 J3 (by omega) qs3 (hg.mv now la3 lc3 hcl3 (fun z hz => ?_)) (Or.inr c0))
                   have h9 : 1024 * M z + (P z).length + _ ≤ kr := (ivp.2.1 z (Or.inl hz)).2.2
                   omega)
          · refine aw_goto (tgt := 146) d_Planner_reckon_98 (by decide) ?_
            first
              | (have hlt : lim < kr := Nat.not_le.mp (fun z => c95 (nI_le z (by omega)))
                 refine endd hh kn mi me gs gg gr gf gb sz' gk gt2 gp2 K cu kc lim go sn cl M P F J _ _ pl pa iv (fun z hz hk => Classical.byContradiction (fun y => ?_)) hg (rt.elim (fun z => ?_) id)
                 · have := hmin2 z hz y
                   omega
                 · exfalso
                   rcases iv.2.2.2.2.2.1 with y | ⟨r1, y1, y2, y3⟩
                   · omega
                   · have e1 := z.2 r1 y1
                     have e2 := z.2 r opr.1
                     rw [e1, ← e2] at y2 y3
                     have h9 : kr = 1024 * M r + (P r).length + 1024 * ffo N (xr r) b (N_n N) := ekr
                     have y3 : 1024 * M r + (P r).length = lim := y3
                     rw [ffo_ow hn6 s2 y2] at h9
                     omega)
              | (have hz0 : sz = 0 := Nat.eq_zero_of_le_zero ((nI_leI (b := 0) (by have := hp.le; omega) (by decide)).mp c71)
                 have hno := hp.sz0 hz0
                 refine endd hh kn mi me gs gg gr gf gb sz gk gt gp K cu kc lim go sn cl M P F J _ _ pl pa iv (fun z hz hk => Classical.byContradiction (fun y => hno z ⟨hz, y⟩)) hg (rt.elim (fun z => ?_) id)
                 exfalso
                 refine hno (rk (N_t N)) ⟨iv.2.2.2.2.2.2.2.1, fun y => ?_⟩
                 have := (iv.2.1 _ y).2.1
                 omega)
  exact loop 720 0 _ _ _ _ _ _ _ _ _ _ _ (by omega) qs (Or.inl ⟨rfl, fun z hz => False.elim hz⟩) (Or.inl ⟨rfl, fun z hz => hz⟩)
theorem x_plan {V : VV} {m : Nat} {h : ab_H} {S : SS} (hX : PX V m h S) (ok : S_ok S) (hVp : V.1 = PV) (i : Int32) : CX V Y_Coat_plan [.int i] m h (fun r S2 => SPP S i r ∧ S2 = S) := by
  obtain ⟨⟨a0, ⟨n0, n1, n2, n3, n4, n5, n6, n7, n8⟩, a2⟩, p1, p2, p3, p4, p5, p6, p7⟩ := id hX
  have hn6 : N_n (S_N S) ≤ 6 := ok.1.1
  have hnT := nI_toInt (show N_n (S_N S) < 2 ^ 31 by omega)
  obtain ⟨kn, mi, me, nv, bo, go, li, sz, g, h35, hnv, h36, ⟨g37, h37⟩, ⟨g38, h38⟩, ⟨g39, h39⟩, ⟨g40, h40⟩, h41, ⟨g42, h42⟩, ⟨g43, h43⟩, ⟨g44, h44⟩, ⟨g45, h45⟩, ⟨g46, h46⟩, hv⟩ := id p4
  rw [hVp] at hv
  refine ab_C.of (L := [some (.ref 1), some (.int i)]) rfl rfl (Nat.le_of_ble_eq_true rfl) (fun l => ?_)
  have cont : ∀ (h' : ab_H) (kn : Bool) (mi me : Int32) (nv : Value) (bo go li : Int32) (g : Nat → Int32), h' 1 = oO (S_K S).isSome → h' 35 = oP kn mi me nv bo go li → h' 36 = .inl (720, g) → PV (S_N S) mi me g → PX V m h' S → (∀ k, 56 ≤ k → k ≤ 88 → h' k = h k) → ¬ i < -2 → ab_W Y_Coat_plan none l (fun r m2 h2 => ∃ (v : Int32) (S2 : SS), r = some (.int v) ∧ (SPP S i v ∧ S2 = S) ∧ PX V m2 h2 S2 ∧ m ≤ m2 ∧ ∀ k, 56 ≤ k → k ≤ 88 → h2 k = h k) 29 [some (.ref 1), some (.int i)] [] m h' (0, 0) := by
    intro h' kn mi me nv bo go li g e1 e35 e36 pv hX2 hfr ni2
    obtain ⟨js, mm, bp, rfl, e2, hl, hg⟩ := pv
    obtain ⟨n, en⟩ : ∃ n, n = js.length := ⟨_, rfl⟩
    rw [← en] at e2 hl hg
    subst e2
    refine aw_iload_n d_Coat_plan_29 rfl ?_
    refine aw_iconst (v := (-1)) d_Coat_plan_30 (by decide) ?_
    refine aw_icmp_ne (tgt := 42) d_Coat_plan_31 (by decide) (fun c31 => ?_) (fun c31 => ?_)
    · refine aw_iload_n d_Coat_plan_42 rfl ?_
      refine aw_bipush (v := (-2)) d_Coat_plan_43 (by decide) ?_
      refine aw_icmp_ne (tgt := 56) d_Coat_plan_45 (by decide) (fun c45 => ?_) (fun c45 => ?_)
      · refine aw_iload_n d_Coat_plan_56 rfl ?_
        refine aw_aload_n d_Coat_plan_57 rfl ?_
        refine aw_get (k := 7) d_Coat_plan_58 cl_Coat k_Coat_47 (by decide) e1 rfl ?_
        refine aw_get (k := 2) d_Coat_plan_61 cl_Planner k_Coat_211 (by decide) e35 rfl ?_
        refine aw_icmp_ge (tgt := 79) d_Coat_plan_64 (by decide) (fun c64 => ?_) (fun c64 => ?_)
        · refine aw_bipush (v := (-4)) d_Coat_plan_79 (by decide) ?_
          refine aw_ireturn d_Coat_plan_81 rfl rfl ?_
          refine ⟨_, S, rfl, ⟨?_, rfl⟩, hX2, Nat.le_refl _, hfr⟩
          unfold SPP
          rw [if_neg ni2]
          refine ⟨js, mm, bp, ?_⟩
          unfold spv
          rw [if_neg c31, if_neg c45, ← en]
          first
            | (rw [nI_toInt hi9, if_pos (by omega), cl_nI hi9]
               exact hg i9 hin)
            | (rw [if_neg]
               have h9 := (fa_le _ _).mp c64
               rw [nI_toInt (by omega)] at h9
               omega)
        · have i0 : 0 ≤ i.toInt := by
            rw [fa_lt, show ((-2 : Int32)).toInt = -2 from by decide] at ni2
            rw [fa_eq, show ((-1 : Int32)).toInt = -1 from by decide] at c31
            rw [fa_eq, show ((-2 : Int32)).toInt = -2 from by decide] at c45
            omega
          obtain ⟨i9, hi9, rfl⟩ : ∃ i9, i9 < 2 ^ 31 ∧ i = nI i9 := ⟨cl i, by have := cl_int i0; have := fb_rng i; omega, cl_of i0⟩
          have hin : i9 < n := Nat.not_le.mp (fun z => c64 (nI_le z hi9))
          refine aw_aload_n d_Coat_plan_67 rfl ?_
          refine aw_get (k := 7) d_Coat_plan_68 cl_Coat k_Coat_47 (by decide) e1 rfl ?_
          refine aw_get (k := 3) d_Coat_plan_71 cl_Planner k_Coat_212 (by decide) e35 rfl ?_
          refine aw_iload_n d_Coat_plan_74 rfl ?_
          refine aw_ialoadN d_Coat_plan_75 e36 (by omega) (by decide) ?_
          refine aw_goto (tgt := 81) d_Coat_plan_76 (by decide) ?_
          refine aw_ireturn d_Coat_plan_81 rfl rfl ?_
          refine ⟨_, S, rfl, ⟨?_, rfl⟩, hX2, Nat.le_refl _, hfr⟩
          unfold SPP
          rw [if_neg ni2]
          refine ⟨js, mm, bp, ?_⟩
          unfold spv
          rw [if_neg c31, if_neg c45, ← en]
          first
            | (rw [nI_toInt hi9, if_pos (by omega), cl_nI hi9]
               exact hg i9 hin)
            | (rw [if_neg]
               have h9 := (fa_le _ _).mp c64
               rw [nI_toInt (by omega)] at h9
               omega)
      · refine aw_aload_n d_Coat_plan_48 rfl ?_
        refine aw_get (k := 7) d_Coat_plan_49 cl_Coat k_Coat_47 (by decide) e1 rfl ?_
        refine aw_get (k := 2) d_Coat_plan_52 cl_Planner k_Coat_211 (by decide) e35 rfl ?_
        refine aw_ireturn d_Coat_plan_55 rfl rfl ?_
        refine ⟨_, S, rfl, ⟨?_, rfl⟩, hX2, Nat.le_refl _, hfr⟩
        unfold SPP
        rw [if_neg ni2]
        refine ⟨js, mm, bp, ?_⟩
        unfold spv
        rw [if_neg c31, if_pos c45, en]
    · refine aw_aload_n d_Coat_plan_34 rfl ?_
      refine aw_get (k := 7) d_Coat_plan_35 cl_Coat k_Coat_47 (by decide) e1 rfl ?_
      refine aw_get (k := 1) d_Coat_plan_38 cl_Planner k_Coat_210 (by decide) e35 rfl ?_
      refine aw_ireturn d_Coat_plan_41 rfl rfl ?_
      refine ⟨_, S, rfl, ⟨?_, rfl⟩, hX2, Nat.le_refl _, hfr⟩
      unfold SPP
      rw [if_neg ni2]
      refine ⟨js, mm, bp, ?_⟩
      unfold spv
      rw [if_pos c31]
  refine aw_iload_n d_Coat_plan_0 rfl ?_
  refine aw_bipush (v := (-2)) d_Coat_plan_1 (by decide) ?_
  refine aw_icmp_ge (tgt := 8) d_Coat_plan_3 (by decide) (fun c3 => ?_) (fun c3 => ?_)
  · have ni2 : ¬ i < -2 := Int32.not_lt.mpr c3
    refine aw_aload_n d_Coat_plan_8 rfl ?_
    refine aw_get (k := 7) d_Coat_plan_9 cl_Coat k_Coat_47 (by decide) a0 rfl ?_
    refine aw_get (k := 0) d_Coat_plan_12 cl_Planner k_Coat_202 (by decide) h35 rfl ?_
    refine aw_if_ne (tgt := 29) d_Coat_plan_15 (by decide) (fun c15 => ?_) (fun c15 => ?_)
    · first
        | exact cont h kn mi me nv bo go li g a0 h35 h36 (hv (ab_bl_1.mp c15)) hX (fun k _ _ => rfl) ni2
        | exact cont h2 true mi2 me2 (.ref 2) (nI b2) go2 (nI lim2) gs2 ((ofr 1 (by omega)).trans a0) o35 o36 pv (hX.pn ofr ⟨true, mi2, me2, .ref 2, nI b2, go2, nI lim2, nI sz2, gs2, o35, Or.inr rfl, o36, ⟨_, o37⟩, ⟨_, o38⟩, ⟨_, o39⟩, ⟨_, o40⟩, o41, ⟨_, o42⟩, ⟨_, o43⟩, ⟨_, o44⟩, ⟨_, o45⟩, ⟨_, o46⟩, fun _ => by rw [hVp]; exact pv⟩) (fun k _ _ => ofr k (by omega)) ni2
    · refine aw_aload_n d_Coat_plan_18 rfl ?_
      refine aw_get (k := 7) d_Coat_plan_19 cl_Coat k_Coat_47 (by decide) a0 rfl ?_
      refine aw_aload_n d_Coat_plan_22 rfl ?_
      refine aw_get (k := 0) d_Coat_plan_23 cl_Coat k_Coat_10 (by decide) a0 rfl ?_
      refine aw_v0 (a := 35) d_Coat_plan_26 k_Coat_206 ok_Planner_reckon rfl ⟨rfl, rfl⟩ cl_Planner h35 (c_Planner_reckon hX.1.2.1 ok.1 h35 h36 h37 h38 h39 h40 h41 h42 h43 h44 h45 h46) rfl rfl (Nat.le_of_ble_eq_true rfl) (fun r m2 h2 z => ?_)
      obtain ⟨rfl, em, mi2, me2, b2, go2, lim2, gs2, gg2, gr2, gf2, gb2, sz2, gk2, gt2, gp2, gi2, gm2, pl, pv⟩ := z
      rw [em]
      show ab_W _ _ _ _ 29 _ [] _ _ _
      obtain ⟨o35, o36, o37, o38, o39, o40, o41, o42, o43, o44, o45, o46, ofr⟩ := id pl
      first
        | exact cont h kn mi me nv bo go li g a0 h35 h36 (hv (ab_bl_1.mp c15)) hX (fun k _ _ => rfl) ni2
        | exact cont h2 true mi2 me2 (.ref 2) (nI b2) go2 (nI lim2) gs2 ((ofr 1 (by omega)).trans a0) o35 o36 pv (hX.pn ofr ⟨true, mi2, me2, .ref 2, nI b2, go2, nI lim2, nI sz2, gs2, o35, Or.inr rfl, o36, ⟨_, o37⟩, ⟨_, o38⟩, ⟨_, o39⟩, ⟨_, o40⟩, o41, ⟨_, o42⟩, ⟨_, o43⟩, ⟨_, o44⟩, ⟨_, o45⟩, ⟨_, o46⟩, fun _ => by rw [hVp]; exact pv⟩) (fun k _ _ => ofr k (by omega)) ni2
  · refine aw_iconst (v := (-1)) d_Coat_plan_6 (by decide) ?_
    refine aw_ireturn d_Coat_plan_7 rfl rfl ?_
    refine ⟨_, S, rfl, ⟨?_, rfl⟩, hX, Nat.le_refl _, fun k _ _ => rfl⟩
    unfold SPP
    rw [if_pos (fa_of_nle c3)]
