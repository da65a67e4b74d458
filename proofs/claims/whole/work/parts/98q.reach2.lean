theorem IV.lb_ {N : NS} {b K cu : Nat} {dn : Nat → Prop} {kc lim : Nat} {sn cl : Nat → Prop} {M : Nat → Nat} {P : Nat → List Nat} {F J : Nat → Nat} (iv : IV N b K cu dn kc lim sn cl M P F J) {r : Nat} (h : sn r) : 1024 * M r + (P r).length ≤ 1592525520 := by
  have hK := iv.K_
  obtain ⟨t1, t2, t3, t4, t5, t6, t7⟩ := iv.1 r h
  omega
theorem IV.lim_ {N : NS} {b K cu : Nat} {dn : Nat → Prop} {kc lim : Nat} {sn cl : Nat → Prop} {M : Nat → Nat} {P : Nat → List Nat} {F J : Nat → Nat} (iv : IV N b K cu dn kc lim sn cl M P F J) : lim ≤ 2147483647 := by
  rcases iv.2.2.2.2.2.1 with z | ⟨r, z1, z2, z3⟩
  · omega
  · have h1 := iv.lb_ z1
    have z3 : 1024 * M r + (P r).length = lim := z3
    omega
theorem c_reach {m : Nat} {h hh : ab_H} {N : NS} (hX : NX h 2 N) (ok : N_ok N) {b : Nat} (eb : bnd (N_n N) (N_w N) (N_t N) = b) {K cu : Nat} {dn : Nat → Prop} {kc lim : Nat} {go : Int32} {gi gm : Nat → Int32} {sn cl : Nat → Prop} {M : Nat → Nat} {P : Nat → List Nat} {F J : Nat → Nat} (qs : QS N b h hh K cu dn kc lim go gi gm sn cl M P F J) (hc : cl cu) (hkc : kyf N b M P cu = kc) {j : Nat} (hj : j < 298) (hs : sok N (xr cu) j) {lab : Nat} (elb : lbj N M P cu j = lab) : ab_C Y_Planner_reach [.ref 35, .int (nI cu), .int (nI (mtA j)), .int (nI (pk (sto N (xr cu) j))), .int (nI lab)] m hh (fun r9 m2 h2 => r9 = none ∧ m2 = m ∧ ∃ (lim2 : Nat) (sn2 : Nat → Prop) (M2 : Nat → Nat) (P2 : Nat → List Nat) (F2 J2 : Nat → Nat), QS N b h h2 K cu (fun i => dn i ∨ i = j) kc lim2 go gi gm sn2 cl M2 P2 F2 J2 ∧ lim2 ≤ lim ∧ (lim2 = lim ∨ kc < lim2) ∧ ∀ z, cl z → M2 z = M z ∧ P2 z = P z) := by
  obtain ⟨kn, mi, me, gs, gg, gr, gf, gb, sz, gk, gt, gp, pl, pa, hp, iv⟩ := id qs
  obtain ⟨o35, o36, o37, o38, o39, o40, o41, o42, o43, o44, o45, o46, ofr⟩ := id pl
  have nX : NX hh 2 N := hX.fr (fun k _ _ => ofr k (by omega))
  have n0 := nX.1
  have hn6 := ok.1
  have hK := iv.K_
  obtain ⟨i1, i2, i3, i4, i5, i6, i7, i8⟩ := id iv
  obtain ⟨cs1, cs2, cs3⟩ := i2 cu hc
  obtain ⟨s1, s2, s3, s4, s5, s6, s7⟩ := i1 cu cs1
  have hy := sto_Tb ok s2 hs.2.1
  have hcn := cons_ ok s2 hs b
  obtain ⟨x, ex⟩ : ∃ x, x = sto N (xr cu) j := ⟨_, rfl⟩
  rw [← ex] at hy hcn ⊢
  obtain ⟨r, er⟩ : ∃ r, r = rk x := ⟨_, rfl⟩
  have hr7 : r < 720 := by rw [er]; exact (rk_t hy.1).1
  have exr : xr r = x := by rw [er]; exact xr_rk hy.1
  have ert : rto N cu j = r := by rw [er, ex]
  have hmil := mil_le ok s2 hs.2.1
  have elb2 : 1024 * M cu + (P cu).length + 1024 * sco N (xr cu) j + 1 = lab := elb
  have hkc2 : 1024 * M cu + (P cu).length + 1024 * ffo N (xr cu) b (N_n N) = kc := hkc
  have hlabB : lab ≤ 1592525520 := by omega
  have hffo := ffo_lt ok hy.1 b hn6
  have hb6 : b < 64 := by rw [← eb]; exact bnd_lt _ _ _ hn6
  have hlimB := iv.lim_
  have e9 : 1024 * (M cu + sco N (xr cu) j) + (j :: P cu).length = lab := by rw [List.length_cons]; omega
  have kcl : cl r → 1024 * M r + (P r).length < lab := fun z => by
    have h9 : 1024 * M r + (P r).length + 1024 * ffo N (xr r) b (N_n N) ≤ kc := (i2 r z).2.2
    rw [exr] at h9
    omega
  refine ab_C.of (L := [some (.ref 35), some (.int (nI cu)), some (.int (nI (mtA j))), some (.int (nI (pk x))), some (.int (nI lab)), none, none]) rfl rfl (Nat.le_of_ble_eq_true rfl) (fun l => ?_)
  have at126 : ∀ (hh : ab_H) (gr : Nat → Int32) (sz : Nat) (gk gt gp : Nat → Int32) (v6 : Option Value), PL h hh kn mi me b go lim gs gg gr gf gb sz gk gt gp gi gm → (∀ z, z < 720 → (sn z ∨ z = r) → gr z = nI (pk (xr z))) → HP (fun z => (sn z ∨ z = r) ∧ ¬ cl z) (kyf N b (ud M r (M cu + sco N (xr cu) j)) (ud P r (j :: P cu))) sz gk gt gp → ¬ cl r → (sn r → lab ≤ lb M P r) → (sn r → lab = lb M P r → rle (j :: P cu) (P r)) → ab_W Y_Planner_reach none l (fun r9 m2 h2 => r9 = none ∧ m2 = m ∧ ∃ (lim2 : Nat) (sn2 : Nat → Prop) (M2 : Nat → Nat) (P2 : Nat → List Nat) (F2 J2 : Nat → Nat), QS N b h h2 K cu (fun i => dn i ∨ i = j) kc lim2 go gi gm sn2 cl M2 P2 F2 J2 ∧ lim2 ≤ lim ∧ (lim2 = lim ∨ kc < lim2) ∧ ∀ z, cl z → M2 z = M z ∧ P2 z = P z) 126 [some (.ref 35), some (.int (nI cu)), some (.int (nI (mtA j))), some (.int (nI (pk x))), some (.int (nI lab)), some (.int (nI r)), v6] [] m hh (0, 0) := by
    intro hh gr sz gk gt gp v6 pl hr2 hp2 hnc hle hlex
    obtain ⟨o35, o36, o37, o38, o39, o40, o41, o42, o43, o44, o45, o46, ofr⟩ := id pl
    have nX : NX hh 2 N := hX.fr (fun k _ _ => ofr k (by omega))
    have n0 := nX.1
    refine aw_aload_n d_Planner_reach_126 rfl ?_
    refine aw_get (k := 8) d_Planner_reach_127 cl_Planner k_Planner_15 (by decide) o35 rfl ?_
    refine aw_iload d_Planner_reach_130 rfl ?_
    refine aw_iload d_Planner_reach_132 rfl ?_
    refine aw_iastoreN d_Planner_reach_134 o37 hr7 (by decide) ?_
    refine aw_gen (fun z => PL h z kn mi me b go lim gs (upd gg r (nI lab)) gr gf gb sz gk gt gp gi gm) (pl.s37 _) (fun hh pl => ?_)
    obtain ⟨o35, o36, o37, o38, o39, o40, o41, o42, o43, o44, o45, o46, ofr⟩ := id pl
    have nX : NX hh 2 N := hX.fr (fun k _ _ => ofr k (by omega))
    have n0 := nX.1
    refine aw_aload_n d_Planner_reach_135 rfl ?_
    refine aw_get (k := 10) d_Planner_reach_136 cl_Planner k_Planner_21 (by decide) o35 rfl ?_
    refine aw_iload d_Planner_reach_139 rfl ?_
    refine aw_iload_n d_Planner_reach_141 rfl ?_
    refine aw_iastoreN d_Planner_reach_142 o39 hr7 (by decide) ?_
    refine aw_gen (fun z => PL h z kn mi me b go lim gs (upd gg r (nI lab)) gr (upd gf r (nI cu)) gb sz gk gt gp gi gm) (pl.s39 _) (fun hh pl => ?_)
    obtain ⟨o35, o36, o37, o38, o39, o40, o41, o42, o43, o44, o45, o46, ofr⟩ := id pl
    have nX : NX hh 2 N := hX.fr (fun k _ _ => ofr k (by omega))
    have n0 := nX.1
    refine aw_aload_n d_Planner_reach_143 rfl ?_
    refine aw_get (k := 11) d_Planner_reach_144 cl_Planner k_Planner_24 (by decide) o35 rfl ?_
    refine aw_iload d_Planner_reach_147 rfl ?_
    refine aw_iload_n d_Planner_reach_149 rfl ?_
    refine aw_iastoreN d_Planner_reach_150 o40 hr7 (by decide) ?_
    refine aw_gen (fun z => PL h z kn mi me b go lim gs (upd gg r (nI lab)) gr (upd gf r (nI cu)) (upd gb r (nI (mtA j))) sz gk gt gp gi gm) (pl.s40 _) (fun hh pl => ?_)
    obtain ⟨o35, o36, o37, o38, o39, o40, o41, o42, o43, o44, o45, o46, ofr⟩ := id pl
    have nX : NX hh 2 N := hX.fr (fun k _ _ => ofr k (by omega))
    have n0 := nX.1
    refine aw_iload d_Planner_reach_151 rfl ?_
    refine aw_aload_n d_Planner_reach_153 rfl ?_
    refine aw_get (k := 7) d_Planner_reach_154 cl_Planner k_Planner_57 (by decide) o35 rfl ?_
    refine aw_icmp_ge (tgt := 177) d_Planner_reach_157 (by decide) (fun c157 => ?_) (fun c157 => ?_)
    · refine aw_return d_Planner_reach_177 rfl ?_
      first
        | (have hq : lim ≤ lab := (nI_leI (by omega) (by omega)).mp c157
           refine ⟨rfl, rfl, lim, _, _, _, _, _, ⟨kn, mi, me, gs, _, gr, _, _, sz, gk, gt, gp, pl, pa.upd_ hr2 e9, hp2, iv.upd_ ok hc hkc hj hs ert hnc elb hle hlex (Or.inr ⟨fun z => absurd z.1 (by omega), rfl⟩)⟩, Nat.le_refl _, Or.inl rfl, fun z hz => ?_⟩
           have nz : z ≠ r := fun e => hnc (by rw [← e]; exact hz)
           exact ⟨ud_n nz, ud_n nz⟩)
        | (have hq := ab_bl_0.mp c168
           refine ⟨rfl, rfl, lim, _, _, _, _, _, ⟨kn, mi, me, gs, _, gr, _, _, sz, gk, gt, gp, pl, pa.upd_ hr2 e9, hp2, iv.upd_ ok hc hkc hj hs ert hnc elb hle hlex (Or.inr ⟨fun z => (by have z := z.2; rw [← ex, hq] at z; cases z), rfl⟩)⟩, Nat.le_refl _, Or.inl rfl, fun z hz => ?_⟩
           have nz : z ≠ r := fun e => hnc (by rw [← e]; exact hz)
           exact ⟨ud_n nz, ud_n nz⟩)
        | (have hq := ab_bl_1.mp c168
           have hq2 : lab < lim := Nat.not_le.mp (fun z => c157 (nI_le z (by omega)))
           have hq3 := ffo_ow (N := N) hn6 hy hq
           rw [hq3] at hcn
           refine ⟨rfl, rfl, lab, _, _, _, _, _, ⟨kn, mi, me, gs, _, gr, _, _, sz, gk, gt, gp, pl.o_ kn mi me go b lab, pa.upd_ hr2 e9, hp2, iv.upd_ ok hc hkc hj hs ert hnc elb hle hlex (Or.inl ⟨hq2, by rw [← ex]; exact hq, rfl⟩)⟩, Nat.le_of_lt hq2, Or.inr (by omega), fun z hz => ?_⟩
           have nz : z ≠ r := fun e => hnc (by rw [← e]; exact hz)
           exact ⟨ud_n nz, ud_n nz⟩)
    · refine aw_iload_n d_Planner_reach_160 rfl ?_
      refine aw_aload_n d_Planner_reach_161 rfl ?_
      refine aw_get (k := 5) d_Planner_reach_162 cl_Planner k_Planner_50 (by decide) o35 rfl ?_
      refine aw_s0i d_Planner_reach_165 k_Planner_85 ok_Rows_areOwn rfl ⟨rfl, rfl⟩ (c_areOwn hy.1 (by omega)) rfl rfl (Nat.le_of_ble_eq_true rfl) ?_
      refine aw_if_eq (tgt := 177) d_Planner_reach_168 (by decide) (fun c168 => ?_) (fun c168 => ?_)
      · refine aw_return d_Planner_reach_177 rfl ?_
        first
          | (have hq : lim ≤ lab := (nI_leI (by omega) (by omega)).mp c157
             refine ⟨rfl, rfl, lim, _, _, _, _, _, ⟨kn, mi, me, gs, _, gr, _, _, sz, gk, gt, gp, pl, pa.upd_ hr2 e9, hp2, iv.upd_ ok hc hkc hj hs ert hnc elb hle hlex (Or.inr ⟨fun z => absurd z.1 (by omega), rfl⟩)⟩, Nat.le_refl _, Or.inl rfl, fun z hz => ?_⟩
             have nz : z ≠ r := fun e => hnc (by rw [← e]; exact hz)
             exact ⟨ud_n nz, ud_n nz⟩)
          | (have hq := ab_bl_0.mp c168
             refine ⟨rfl, rfl, lim, _, _, _, _, _, ⟨kn, mi, me, gs, _, gr, _, _, sz, gk, gt, gp, pl, pa.upd_ hr2 e9, hp2, iv.upd_ ok hc hkc hj hs ert hnc elb hle hlex (Or.inr ⟨fun z => (by have z := z.2; rw [← ex, hq] at z; cases z), rfl⟩)⟩, Nat.le_refl _, Or.inl rfl, fun z hz => ?_⟩
             have nz : z ≠ r := fun e => hnc (by rw [← e]; exact hz)
             exact ⟨ud_n nz, ud_n nz⟩)
          | (have hq := ab_bl_1.mp c168
             have hq2 : lab < lim := Nat.not_le.mp (fun z => c157 (nI_le z (by omega)))
             have hq3 := ffo_ow (N := N) hn6 hy hq
             rw [hq3] at hcn
             refine ⟨rfl, rfl, lab, _, _, _, _, _, ⟨kn, mi, me, gs, _, gr, _, _, sz, gk, gt, gp, pl.o_ kn mi me go b lab, pa.upd_ hr2 e9, hp2, iv.upd_ ok hc hkc hj hs ert hnc elb hle hlex (Or.inl ⟨hq2, by rw [← ex]; exact hq, rfl⟩)⟩, Nat.le_of_lt hq2, Or.inr (by omega), fun z hz => ?_⟩
             have nz : z ≠ r := fun e => hnc (by rw [← e]; exact hz)
             exact ⟨ud_n nz, ud_n nz⟩)
      · refine aw_aload_n d_Planner_reach_171 rfl ?_
        refine aw_iload d_Planner_reach_172 rfl ?_
        refine aw_put (k := 7) (fs' := [.int (ab_bl kn), .int mi, .int me, .ref 36, .ref 2, .int (nI b), .int go, .int (nI lab), .ref 37, .ref 38, .ref 39, .ref 40, .ref 41, .ref 45, .ref 46]) d_Planner_reach_174 cl_Planner k_Planner_57 (by decide) rfl ⟨rfl, rfl⟩ o35 (Nat.le_of_ble_eq_true rfl) rfl ?_
        refine aw_return d_Planner_reach_177 rfl ?_
        first
          | (have hq : lim ≤ lab := (nI_leI (by omega) (by omega)).mp c157
             refine ⟨rfl, rfl, lim, _, _, _, _, _, ⟨kn, mi, me, gs, _, gr, _, _, sz, gk, gt, gp, pl, pa.upd_ hr2 e9, hp2, iv.upd_ ok hc hkc hj hs ert hnc elb hle hlex (Or.inr ⟨fun z => absurd z.1 (by omega), rfl⟩)⟩, Nat.le_refl _, Or.inl rfl, fun z hz => ?_⟩
             have nz : z ≠ r := fun e => hnc (by rw [← e]; exact hz)
             exact ⟨ud_n nz, ud_n nz⟩)
          | (have hq := ab_bl_0.mp c168
             refine ⟨rfl, rfl, lim, _, _, _, _, _, ⟨kn, mi, me, gs, _, gr, _, _, sz, gk, gt, gp, pl, pa.upd_ hr2 e9, hp2, iv.upd_ ok hc hkc hj hs ert hnc elb hle hlex (Or.inr ⟨fun z => (by have z := z.2; rw [← ex, hq] at z; cases z), rfl⟩)⟩, Nat.le_refl _, Or.inl rfl, fun z hz => ?_⟩
             have nz : z ≠ r := fun e => hnc (by rw [← e]; exact hz)
             exact ⟨ud_n nz, ud_n nz⟩)
          | (have hq := ab_bl_1.mp c168
             have hq2 : lab < lim := Nat.not_le.mp (fun z => c157 (nI_le z (by omega)))
             have hq3 := ffo_ow (N := N) hn6 hy hq
             rw [hq3] at hcn
             refine ⟨rfl, rfl, lab, _, _, _, _, _, ⟨kn, mi, me, gs, _, gr, _, _, sz, gk, gt, gp, pl.o_ kn mi me go b lab, pa.upd_ hr2 e9, hp2, iv.upd_ ok hc hkc hj hs ert hnc elb hle hlex (Or.inl ⟨hq2, by rw [← ex]; exact hq, rfl⟩)⟩, Nat.le_of_lt hq2, Or.inr (by omega), fun z hz => ?_⟩
             have nz : z ≠ r := fun e => hnc (by rw [← e]; exact hz)
             exact ⟨ud_n nz, ud_n nz⟩)
  refine aw_iload_n d_Planner_reach_0 rfl ?_
  refine aw_s0i d_Planner_reach_1 k_Planner_169 ok_Rows_rank rfl ⟨rfl, rfl⟩ (c_rank hy.1) rfl rfl (Nat.le_of_ble_eq_true rfl) ?_
  rw [← er]
  refine aw_istore (L' := [some (.ref 35), some (.int (nI cu)), some (.int (nI (mtA j))), some (.int (nI (pk x))), some (.int (nI lab)), some (.int (nI r)), none]) d_Planner_reach_4 ⟨by decide, rfl⟩ rfl ?_
  refine aw_aload_n d_Planner_reach_6 rfl ?_
  refine aw_get (k := 8) d_Planner_reach_7 cl_Planner k_Planner_15 (by decide) o35 rfl ?_
  refine aw_iload d_Planner_reach_10 rfl ?_
  refine aw_ialoadN d_Planner_reach_12 o37 hr7 (by decide) ?_
  refine aw_topi (fun v13 ev13 => ?_)
  refine aw_istore (L' := [some (.ref 35), some (.int (nI cu)), some (.int (nI (mtA j))), some (.int (nI (pk x))), some (.int (nI lab)), some (.int (nI r)), some (.int v13)]) d_Planner_reach_13 ⟨by decide, rfl⟩ rfl ?_
  refine aw_iload d_Planner_reach_15 rfl ?_
  refine aw_iconst (v := (-1)) d_Planner_reach_17 (by decide) ?_
  refine aw_icmp_ne (tgt := 60) d_Planner_reach_18 (by decide) (fun c18 => ?_) (fun c18 => ?_)
  · have hsr : sn r := Classical.byContradiction (fun z => c18 (by rw [ev13]; exact (pa r hr7).1 z))
    have a9 := (pa r hr7).2 hsr
    have hlbr := iv.lb_ hsr
    obtain rfl : v13 = nI (1024 * M r + (P r).length) := ev13.trans a9.1
    refine aw_iload d_Planner_reach_60 rfl ?_
    refine aw_iload d_Planner_reach_62 rfl ?_
    refine aw_icmp_ge (tgt := 95) d_Planner_reach_64 (by decide) (fun c64 => ?_) (fun c64 => ?_)
    · refine aw_iload d_Planner_reach_95 rfl ?_
      refine aw_iload d_Planner_reach_97 rfl ?_
      refine aw_icmp_gt (tgt := 125) d_Planner_reach_99 (by decide) (fun c99 => ?_) (fun c99 => ?_)
      · refine aw_return d_Planner_reach_125 rfl ?_
        refine ⟨rfl, rfl, lim, sn, M, P, F, J, ⟨kn, mi, me, gs, gg, gr, gf, gb, sz, gk, gt, gp, pl, pa, hp, iv.dn_ (fun i hi hsi hd => hd.elim Or.inl (fun e => Or.inr ?_))⟩, Nat.le_refl _, Or.inl rfl, fun z hz => ⟨rfl, rfl⟩⟩
        subst e
        refine Or.inr ⟨by rw [ert]; exact hsr, ?_⟩
        rw [ert, elb]
        first
          | (have h8 := (nI_ltI (by omega) (by omega)).mp c99
             exact Or.inl h8)
          | (refine Or.inr ⟨heq.symm, ?_⟩
             have hno : ¬ rlt (i :: P cu) (P r) := fun y => by
               have := hiff.mpr (by rw [← z1]; exact y)
               rw [ab_bl_0.mp c122] at this
               cases this
             rcases rlt_tot (P r) (i :: P cu) (by rw [List.length_cons]; omega) with y | y | y
             · exact Or.inl y
             · exact Or.inr y
             · exact absurd y hno)
      · have heq : lab = (1024 * M r + (P r).length) := Nat.le_antisymm (Nat.not_lt.mp (fun z => c99 (nI_lt z (by omega)))) ((nI_leI (by omega) (by omega)).mp c64)
        have hnc : ¬ cl r := fun z => by have := kcl z; omega
        obtain ⟨t1, t2, t3, t4, t5, t6, t7⟩ := i1 r hsr
        have z9 : P r = J r :: P (F r) ∧ cl (F r) ∧ J r < 298 ∧ sok N (xr (F r)) (J r) ∧ xr r = sto N (xr (F r)) (J r) ∧ M r = M (F r) + sco N (xr (F r)) (J r) := t7.elim (fun z => by rw [z.1, z.2.2, List.length_nil] at heq; omega) id
        obtain ⟨z1, z2, z3, z4, z5, z6⟩ := z9
        obtain ⟨y1, y2⟩ := a9.2.2 (by rw [z1]; exact List.cons_ne_nil _ _)
        have hln : (P cu).length + 1 = (P r).length := by omega
        have hln2 : (P cu).length = (P (F r)).length := by rw [z1, List.length_cons] at hln; omega
        refine aw_aload_n d_Planner_reach_102 rfl ?_
        refine aw_iload_n d_Planner_reach_103 rfl ?_
        refine aw_iload_n d_Planner_reach_104 rfl ?_
        refine aw_aload_n d_Planner_reach_105 rfl ?_
        refine aw_get (k := 10) d_Planner_reach_106 cl_Planner k_Planner_21 (by decide) o35 rfl ?_
        refine aw_iload d_Planner_reach_109 rfl ?_
        refine aw_ialoadN d_Planner_reach_111 o39 hr7 (by decide) ?_
        rw [y1]
        refine aw_aload_n d_Planner_reach_112 rfl ?_
        refine aw_get (k := 11) d_Planner_reach_113 cl_Planner k_Planner_24 (by decide) o35 rfl ?_
        refine aw_iload d_Planner_reach_116 rfl ?_
        refine aw_ialoadN d_Planner_reach_118 o40 hr7 (by decide) ?_
        rw [y2]
        refine aw_v0 (a := 35) d_Planner_reach_119 k_Planner_179 ok_Planner_isEarlier rfl ⟨rfl, rfl⟩ cl_Planner o35 (c_isEarlier o35 o39 o40 (iv.pt pa) hc z2 hln2 hj z3 hs.1 z4.1) rfl rfl (Nat.le_of_ble_eq_true rfl) (fun r2 m2 h2 z => ?_)
        obtain ⟨em, eh, eb2, rfl, hiff⟩ := z
        rw [em, eh]
        show ab_W _ _ _ _ 122 _ [.int (ab_bl eb2)] _ _ _
        refine aw_if_ne (tgt := 126) d_Planner_reach_122 (by decide) (fun c122 => ?_) (fun c122 => ?_)
        · first
            | exact at126 _ _ _ _ gt2 gp2 _ (pl.hf (sz + 1) _ gt2 gp2) (fun z hz hzz => by
                 by_cases e : z = r
                 · rw [e, pk_us, exr]
                 · rw [pk_un e]; exact ((pa z hz).2 (hzz.elim id (fun w => absurd w e))).2.1) (hp2.cong (fun z => ⟨fun y => y.elim (fun w => ⟨Or.inl w.1, w.2⟩) (fun w => ⟨Or.inr w, by rw [w]; exact hnc⟩), fun y => y.1.elim (fun w => Or.inl ⟨w, y.2⟩) Or.inr⟩) (fun z _ => ⟨by
                 by_cases e : z = r
                 · rw [e, kyf_r e9, exr, ud_s]
                 · rw [kyf_n e, ud_n e], rfl⟩)) hnc (fun z => absurd z hns) (fun z => absurd z hns)
            | exact at126 _ _ _ _ gt2 gp2 _ (pl.hf sz _ gt2 gp2) (fun z hz hzz => ((pa z hz).2 (hzz.elim id (fun w => by rw [w]; exact hsr))).2.1) (hp2.cong (fun z => ⟨fun y => ⟨Or.inl y.1, y.2⟩, fun y => ⟨y.1.elim id (fun w => by rw [w]; exact hsr), y.2⟩⟩) (fun z _ => ⟨by
                 by_cases e : z = r
                 · rw [e, kyf_r e9, exr, ud_s]
                 · rw [kyf_n e, ud_n e], rfl⟩)) hnc (fun _ => Nat.le_of_lt hlt) (fun _ e => absurd e (Nat.ne_of_lt hlt))
            | exact at126 _ _ _ _ _ _ _ pl (fun z hz hzz => ((pa z hz).2 (hzz.elim id (fun w => by rw [w]; exact hsr))).2.1) (hp.cong (fun z => ⟨fun y => ⟨Or.inl y.1, y.2⟩, fun y => ⟨y.1.elim id (fun w => by rw [w]; exact hsr), y.2⟩⟩) (fun z _ => ⟨by
                 by_cases e : z = r
                 · rw [e, kyf_r e9, heq]
                 · rw [kyf_n e], rfl⟩)) hnc (fun _ => Nat.le_of_eq heq) (fun _ _ => Or.inl (by rw [z1]; exact hiff.mp (ab_bl_1.mp c122)))
        · refine aw_return d_Planner_reach_125 rfl ?_
          refine ⟨rfl, rfl, lim, sn, M, P, F, J, ⟨kn, mi, me, gs, gg, gr, gf, gb, sz, gk, gt, gp, pl, pa, hp, iv.dn_ (fun i hi hsi hd => hd.elim Or.inl (fun e => Or.inr ?_))⟩, Nat.le_refl _, Or.inl rfl, fun z hz => ⟨rfl, rfl⟩⟩
          subst e
          refine Or.inr ⟨by rw [ert]; exact hsr, ?_⟩
          rw [ert, elb]
          first
            | (have h8 := (nI_ltI (by omega) (by omega)).mp c99
               exact Or.inl h8)
            | (refine Or.inr ⟨heq.symm, ?_⟩
               have hno : ¬ rlt (i :: P cu) (P r) := fun y => by
                 have := hiff.mpr (by rw [← z1]; exact y)
                 rw [ab_bl_0.mp c122] at this
                 cases this
               rcases rlt_tot (P r) (i :: P cu) (by rw [List.length_cons]; omega) with y | y | y
               · exact Or.inl y
               · exact Or.inr y
               · exact absurd y hno)
    · have hlt : lab < (1024 * M r + (P r).length) := Nat.not_le.mp (fun z => c64 (nI_le z (by omega)))
      have hnc : ¬ cl r := fun z => by have := kcl z; omega
      have opr : sn r ∧ ¬ cl r := ⟨hsr, hnc⟩
      have ek : gk r = nI ((1024 * M r + (P r).length) + 1024 * ffo N x b (N_n N)) := by
        have := (hp.k opr).2.1
        rw [this, ← exr]
      refine aw_aload_n d_Planner_reach_67 rfl ?_
      refine aw_get (k := 12) d_Planner_reach_68 cl_Planner k_Planner_30 (by decide) o35 rfl ?_
      refine aw_iload d_Planner_reach_71 rfl ?_
      refine aw_aload_n d_Planner_reach_73 rfl ?_
      refine aw_get (k := 12) d_Planner_reach_74 cl_Planner k_Planner_30 (by decide) o35 rfl ?_
      refine aw_get (k := 1) d_Planner_reach_77 cl_Heap k_Planner_82 (by decide) o41 rfl ?_
      refine aw_iload d_Planner_reach_80 rfl ?_
      refine aw_ialoadN d_Planner_reach_82 o42 hr7 (by decide) ?_
      rw [ek]
      refine aw_iload d_Planner_reach_83 rfl ?_
      refine aw_isub d_Planner_reach_85 ?_
      rw [pk_sub (by omega), Nat.add_sub_cancel_left]
      refine aw_iload d_Planner_reach_86 rfl ?_
      refine aw_iadd d_Planner_reach_88 ?_
      rw [nI_add, Nat.add_comm (1024 * ffo N x b (N_n N)) lab]
      refine aw_v0 (a := 41) d_Planner_reach_89 k_Planner_176 ok_Heap_lower rfl ⟨rfl, rfl⟩ cl_Heap o41 (c_lower o41 o42 o43 o44 hp (r := r) (k := lab + 1024 * ffo N x b (N_n N)) opr (by show _ ≤ (1024 * M r + (P r).length) + 1024 * ffo N (xr r) b (N_n N); rw [exr]; omega)) rfl rfl (Nat.le_of_ble_eq_true rfl) (fun r2 m2 h2 z => ?_)
      obtain ⟨rfl, em, gt2, gp2, rfl, hp2⟩ := z
      rw [em]
      show ab_W _ _ _ _ 92 _ [] _ _ _
      refine aw_goto (tgt := 126) d_Planner_reach_92 (by decide) ?_
      first
        | exact at126 _ _ _ _ gt2 gp2 _ (pl.hf (sz + 1) _ gt2 gp2) (fun z hz hzz => by
             by_cases e : z = r
             · rw [e, pk_us, exr]
             · rw [pk_un e]; exact ((pa z hz).2 (hzz.elim id (fun w => absurd w e))).2.1) (hp2.cong (fun z => ⟨fun y => y.elim (fun w => ⟨Or.inl w.1, w.2⟩) (fun w => ⟨Or.inr w, by rw [w]; exact hnc⟩), fun y => y.1.elim (fun w => Or.inl ⟨w, y.2⟩) Or.inr⟩) (fun z _ => ⟨by
             by_cases e : z = r
             · rw [e, kyf_r e9, exr, ud_s]
             · rw [kyf_n e, ud_n e], rfl⟩)) hnc (fun z => absurd z hns) (fun z => absurd z hns)
        | exact at126 _ _ _ _ gt2 gp2 _ (pl.hf sz _ gt2 gp2) (fun z hz hzz => ((pa z hz).2 (hzz.elim id (fun w => by rw [w]; exact hsr))).2.1) (hp2.cong (fun z => ⟨fun y => ⟨Or.inl y.1, y.2⟩, fun y => ⟨y.1.elim id (fun w => by rw [w]; exact hsr), y.2⟩⟩) (fun z _ => ⟨by
             by_cases e : z = r
             · rw [e, kyf_r e9, exr, ud_s]
             · rw [kyf_n e, ud_n e], rfl⟩)) hnc (fun _ => Nat.le_of_lt hlt) (fun _ e => absurd e (Nat.ne_of_lt hlt))
        | exact at126 _ _ _ _ _ _ _ pl (fun z hz hzz => ((pa z hz).2 (hzz.elim id (fun w => by rw [w]; exact hsr))).2.1) (hp.cong (fun z => ⟨fun y => ⟨Or.inl y.1, y.2⟩, fun y => ⟨y.1.elim id (fun w => by rw [w]; exact hsr), y.2⟩⟩) (fun z _ => ⟨by
             by_cases e : z = r
             · rw [e, kyf_r e9, heq]
             · rw [kyf_n e], rfl⟩)) hnc (fun _ => Nat.le_of_eq heq) (fun _ _ => Or.inl (by rw [z1]; exact hiff.mp (ab_bl_1.mp c122)))
  · have hns : ¬ sn r := fun z => by
      have h9 := ((pa r hr7).2 z).1
      have h8 := iv.lb_ z
      rw [← ev13, c18] at h9
      have h9 : -1 = nI (1024 * M r + (P r).length) := h9
      rw [fa_eq, nI_toInt (by omega), show ((-1 : Int32)).toInt = -1 from by decide] at h9
      omega
    have hnc : ¬ cl r := fun z => hns (i2 r z).1
    refine aw_aload_n d_Planner_reach_21 rfl ?_
    refine aw_get (k := 9) d_Planner_reach_22 cl_Planner k_Planner_18 (by decide) o35 rfl ?_
    refine aw_iload d_Planner_reach_25 rfl ?_
    refine aw_iload_n d_Planner_reach_27 rfl ?_
    refine aw_iastoreN d_Planner_reach_28 o38 hr7 (by decide) ?_
    refine aw_gen (fun z => PL h z kn mi me b go lim gs gg (upd gr r (nI (pk x))) gf gb sz gk gt gp gi gm) (pl.s38 _) (fun hh pl => ?_)
    obtain ⟨o35, o36, o37, o38, o39, o40, o41, o42, o43, o44, o45, o46, ofr⟩ := id pl
    have nX : NX hh 2 N := hX.fr (fun k _ _ => ofr k (by omega))
    have n0 := nX.1
    refine aw_aload_n d_Planner_reach_29 rfl ?_
    refine aw_get (k := 12) d_Planner_reach_30 cl_Planner k_Planner_30 (by decide) o35 rfl ?_
    refine aw_iload d_Planner_reach_33 rfl ?_
    refine aw_iload d_Planner_reach_35 rfl ?_
    refine aw_sipush (v := nI 1024) d_Planner_reach_37 (by decide) ?_
    refine aw_aload_n d_Planner_reach_40 rfl ?_
    refine aw_get (k := 4) d_Planner_reach_41 cl_Planner k_Planner_40 (by decide) o35 rfl ?_
    refine aw_iload_n d_Planner_reach_44 rfl ?_
    refine aw_aload_n d_Planner_reach_45 rfl ?_
    refine aw_get (k := 5) d_Planner_reach_46 cl_Planner k_Planner_50 (by decide) o35 rfl ?_
    refine aw_v0i (a := 2) d_Planner_reach_49 k_Planner_163 ok_Night_farFromOwners rfl ⟨rfl, rfl⟩ cl_Night n0 (c_ffo nX ok hy.1 (s := b) (by omega)) rfl rfl (Nat.le_of_ble_eq_true rfl) ?_
    refine aw_imul d_Planner_reach_52 ?_
    rw [pk_mul]
    refine aw_iadd d_Planner_reach_53 ?_
    rw [nI_add]
    refine aw_v0 (a := 41) d_Planner_reach_54 k_Planner_172 ok_Heap_add rfl ⟨rfl, rfl⟩ cl_Heap o41 (c_add o41 o42 o43 o44 hp hr7 (by omega) (fun z => hns z.1)) rfl rfl (Nat.le_of_ble_eq_true rfl) (fun r2 m2 h2 z => ?_)
    obtain ⟨rfl, em, gt2, gp2, rfl, hp2⟩ := z
    rw [em]
    show ab_W _ _ _ _ 57 _ [] _ _ _
    refine aw_goto (tgt := 126) d_Planner_reach_57 (by decide) ?_
    first
      | exact at126 _ _ _ _ gt2 gp2 _ (pl.hf (sz + 1) _ gt2 gp2) (fun z hz hzz => by
           by_cases e : z = r
           · rw [e, pk_us, exr]
           · rw [pk_un e]; exact ((pa z hz).2 (hzz.elim id (fun w => absurd w e))).2.1) (hp2.cong (fun z => ⟨fun y => y.elim (fun w => ⟨Or.inl w.1, w.2⟩) (fun w => ⟨Or.inr w, by rw [w]; exact hnc⟩), fun y => y.1.elim (fun w => Or.inl ⟨w, y.2⟩) Or.inr⟩) (fun z _ => ⟨by
           by_cases e : z = r
           · rw [e, kyf_r e9, exr, ud_s]
           · rw [kyf_n e, ud_n e], rfl⟩)) hnc (fun z => absurd z hns) (fun z => absurd z hns)
      | exact at126 _ _ _ _ gt2 gp2 _ (pl.hf sz _ gt2 gp2) (fun z hz hzz => ((pa z hz).2 (hzz.elim id (fun w => by rw [w]; exact hsr))).2.1) (hp2.cong (fun z => ⟨fun y => ⟨Or.inl y.1, y.2⟩, fun y => ⟨y.1.elim id (fun w => by rw [w]; exact hsr), y.2⟩⟩) (fun z _ => ⟨by
           by_cases e : z = r
           · rw [e, kyf_r e9, exr, ud_s]
           · rw [kyf_n e, ud_n e], rfl⟩)) hnc (fun _ => Nat.le_of_lt hlt) (fun _ e => absurd e (Nat.ne_of_lt hlt))
      | exact at126 _ _ _ _ _ _ _ pl (fun z hz hzz => ((pa z hz).2 (hzz.elim id (fun w => by rw [w]; exact hsr))).2.1) (hp.cong (fun z => ⟨fun y => ⟨Or.inl y.1, y.2⟩, fun y => ⟨y.1.elim id (fun w => by rw [w]; exact hsr), y.2⟩⟩) (fun z _ => ⟨by
           by_cases e : z = r
           · rw [e, kyf_r e9, heq]
           · rw [kyf_n e], rfl⟩)) hnc (fun _ => Nat.le_of_eq heq) (fun _ _ => Or.inl (by rw [z1]; exact hiff.mp (ab_bl_1.mp c122)))
