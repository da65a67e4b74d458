theorem c_goByPairs {m : Nat} {h hh : ab_H} {N : NS} (hX : NX h 2 N) (ok : N_ok N) {b : Nat} (eb : bnd (N_n N) (N_w N) (N_t N) = b) {K cu : Nat} {kc lim0 : Nat} {go : Int32} {gi gm : Nat → Int32} {cl : Nat → Prop} {M0 : Nat → Nat} {P0 : Nat → List Nat} (hc : cl cu) (hkc0 : kyf N b M0 P0 cu = kc) (now : ow (xr cu) b = false) (qx : QX N b h hh K cu (fun _ => False) kc lim0 go gi gm cl M0 P0) : ab_C Y_Planner_goByPairs [.ref 35, .int (nI cu)] m hh (fun r9 m2 h2 => r9 = none ∧ m2 = m ∧ QX N b h h2 K cu (fun j => j < 36) kc lim0 go gi gm cl M0 P0) := by
  have hn6 := ok.1
  have hns : N_ns N ≤ 4 := ok.2.2.2.2.2.2.2.2.1
  have hw6 := ok.w6
  have hw31 : N_w N < 2 ^ 31 := by omega
  refine ab_C.of (L := [some (.ref 35), some (.int (nI cu)), none, none, none]) rfl rfl (Nat.le_of_ble_eq_true rfl) (fun l => ?_)
  have loopa : ∀ ka a (hh : ab_H), a + ka = N_n N → QX N b h hh K cu (fun j => j < 36 ∧ (j / 6 < a ∨ (j / 6 = a ∧ j % 6 < 0))) kc lim0 go gi gm cl M0 P0 → ab_W Y_Planner_goByPairs none l (fun r9 m2 h2 => r9 = none ∧ m2 = m ∧ QX N b h h2 K cu (fun j => j < 36) kc lim0 go gi gm cl M0 P0) 2 [some (.ref 35), some (.int (nI cu)), some (.int (nI (a))), none, none] [] m (hh) (0, 0) := by
    intro ka
    induction ka with
    | zero =>
      intro a hh ha9 qx
      have ha9n : N_n N = a := by omega
      subst ha9n
      obtain ⟨lim, sn, M, P, F, J, qs, l1, l2, hcl⟩ := id qx
      obtain ⟨kn, mi, me, gs, gg, gr, gf, gb, sz, gk, gt, gp, pl, pa, hp, iv⟩ := id qs
      obtain ⟨o35, o36, o37, o38, o39, o40, o41, o42, o43, o44, o45, o46, ofr⟩ := id pl
      have nX : NX hh 2 N := hX.fr (fun k _ _ => ofr k (by omega))
      have n0 := nX.1
      have hK := iv.K_
      have cs1 := (iv.2.1 cu hc).1
      obtain ⟨s1, s2, s3, s4, s5, s6, s7⟩ := iv.1 cu cs1
      have hlb := iv.lb_ cs1
      have hlimB := iv.lim_
      have pc := (pa cu s1).2 cs1
      have pc1 : gg cu = nI (1024 * M cu + (P cu).length) := pc.1
      have hkc : kyf N b M P cu = kc := by
        rw [← hkc0]
        show 1024 * M cu + (P cu).length + _ = 1024 * M0 cu + (P0 cu).length + _
        rw [(hcl cu hc).1, (hcl cu hc).2]
      refine aw_iload_n d_Planner_goByPairs_2 rfl ?_
      refine aw_aload_n d_Planner_goByPairs_3 rfl ?_
      refine aw_get (k := 4) d_Planner_goByPairs_4 cl_Planner k_Planner_40 (by decide) o35 rfl ?_
      refine aw_get (k := 0) d_Planner_goByPairs_7 cl_Night k_Planner_138 (by decide) n0 rfl ?_
      refine aw_icmp_ge (tgt := 120) d_Planner_goByPairs_10 (by decide) (fun c10 => ?_) (fun c10 => ?_)
      · refine aw_return d_Planner_goByPairs_120 rfl ?_
        exact ⟨rfl, rfl, qx.dn_ (fun j hj hs h => by
          have := pair_j ok s2 h hs
          exact ⟨h, by omega⟩)⟩
      · exact absurd (Int32.le_refl _) c10
    | succ ka iha =>
      intro a hh ha9 qx
      obtain ⟨lim, sn, M, P, F, J, qs, l1, l2, hcl⟩ := id qx
      obtain ⟨kn, mi, me, gs, gg, gr, gf, gb, sz, gk, gt, gp, pl, pa, hp, iv⟩ := id qs
      obtain ⟨o35, o36, o37, o38, o39, o40, o41, o42, o43, o44, o45, o46, ofr⟩ := id pl
      have nX : NX hh 2 N := hX.fr (fun k _ _ => ofr k (by omega))
      have n0 := nX.1
      have hK := iv.K_
      have cs1 := (iv.2.1 cu hc).1
      obtain ⟨s1, s2, s3, s4, s5, s6, s7⟩ := iv.1 cu cs1
      have hlb := iv.lb_ cs1
      have hlimB := iv.lim_
      have pc := (pa cu s1).2 cs1
      have pc1 : gg cu = nI (1024 * M cu + (P cu).length) := pc.1
      have hkc : kyf N b M P cu = kc := by
        rw [← hkc0]
        show 1024 * M cu + (P cu).length + _ = 1024 * M0 cu + (P0 cu).length + _
        rw [(hcl cu hc).1, (hcl cu hc).2]
      refine aw_iload_n d_Planner_goByPairs_2 rfl ?_
      refine aw_aload_n d_Planner_goByPairs_3 rfl ?_
      refine aw_get (k := 4) d_Planner_goByPairs_4 cl_Planner k_Planner_40 (by decide) o35 rfl ?_
      refine aw_get (k := 0) d_Planner_goByPairs_7 cl_Night k_Planner_138 (by decide) n0 rfl ?_
      refine aw_icmp_ge (tgt := 120) d_Planner_goByPairs_10 (by decide) (fun c10 => ?_) (fun c10 => ?_)
      · exact absurd c10 (nI_ge (by omega) (by omega))
      · refine aw_iload_n d_Planner_goByPairs_13 rfl ?_
        refine aw_iconst (v := nI 1) d_Planner_goByPairs_14 (by decide) ?_
        refine aw_iadd d_Planner_goByPairs_15 ?_
        rw [nI_add]
        refine aw_istore_n (L' := [some (.ref 35), some (.int (nI cu)), some (.int (nI (a))), some (.int (nI (a + 1))), none]) d_Planner_goByPairs_16 ⟨by decide, rfl⟩ rfl ?_
        have loopc : ∀ kk c (hh : ab_H), c + kk = N_n N → a < c → QX N b h hh K cu (fun j => j < 36 ∧ (j / 6 < a ∨ (j / 6 = a ∧ j % 6 < c))) kc lim0 go gi gm cl M0 P0 → ab_W Y_Planner_goByPairs none l (fun r9 m2 h2 => r9 = none ∧ m2 = m ∧ QX N b h h2 K cu (fun j => j < 36) kc lim0 go gi gm cl M0 P0) 17 [some (.ref 35), some (.int (nI cu)), some (.int (nI a)), some (.int (nI (c))), none] [] m (hh) (0, 0) := by
          intro kk
          induction kk with
          | zero =>
            intro c hh hc9 hac qx
            have hc9n : N_n N = c := by omega
            subst hc9n
            obtain ⟨lim, sn, M, P, F, J, qs, l1, l2, hcl⟩ := id qx
            obtain ⟨kn, mi, me, gs, gg, gr, gf, gb, sz, gk, gt, gp, pl, pa, hp, iv⟩ := id qs
            obtain ⟨o35, o36, o37, o38, o39, o40, o41, o42, o43, o44, o45, o46, ofr⟩ := id pl
            have nX : NX hh 2 N := hX.fr (fun k _ _ => ofr k (by omega))
            have n0 := nX.1
            have hK := iv.K_
            have cs1 := (iv.2.1 cu hc).1
            obtain ⟨s1, s2, s3, s4, s5, s6, s7⟩ := iv.1 cu cs1
            have hlb := iv.lb_ cs1
            have hlimB := iv.lim_
            have pc := (pa cu s1).2 cs1
            have pc1 : gg cu = nI (1024 * M cu + (P cu).length) := pc.1
            have hkc : kyf N b M P cu = kc := by
              rw [← hkc0]
              show 1024 * M cu + (P cu).length + _ = 1024 * M0 cu + (P0 cu).length + _
              rw [(hcl cu hc).1, (hcl cu hc).2]
            refine aw_iload_n d_Planner_goByPairs_17 rfl ?_
            refine aw_aload_n d_Planner_goByPairs_18 rfl ?_
            refine aw_get (k := 4) d_Planner_goByPairs_19 cl_Planner k_Planner_40 (by decide) o35 rfl ?_
            refine aw_get (k := 0) d_Planner_goByPairs_22 cl_Night k_Planner_138 (by decide) n0 rfl ?_
            refine aw_icmp_ge (tgt := 114) d_Planner_goByPairs_25 (by decide) (fun c25 => ?_) (fun c25 => ?_)
            · refine aw_iinc (v := nI (a + 1)) (L' := [some (.ref 35), some (.int (nI cu)), some (.int (nI (a + 1))), some (.int (nI (N_n N))), none]) d_Planner_goByPairs_114 rfl (nI_1 _) ⟨by decide, rfl⟩ rfl ?_
              refine aw_goto (tgt := 2) d_Planner_goByPairs_117 (by decide) ?_
              exact aw_drop 3 (iha (a + 1) hh (by omega) (qx.dn_ (fun j hj hs h => by
                have := pair_j ok s2 h.1 hs
                exact ⟨h.1, by omega⟩)))
            · exact absurd (Int32.le_refl _) c25
          | succ kk ihc =>
            intro c hh hc9 hac qx
            obtain ⟨lim, sn, M, P, F, J, qs, l1, l2, hcl⟩ := id qx
            obtain ⟨kn, mi, me, gs, gg, gr, gf, gb, sz, gk, gt, gp, pl, pa, hp, iv⟩ := id qs
            obtain ⟨o35, o36, o37, o38, o39, o40, o41, o42, o43, o44, o45, o46, ofr⟩ := id pl
            have nX : NX hh 2 N := hX.fr (fun k _ _ => ofr k (by omega))
            have n0 := nX.1
            have hK := iv.K_
            have cs1 := (iv.2.1 cu hc).1
            obtain ⟨s1, s2, s3, s4, s5, s6, s7⟩ := iv.1 cu cs1
            have hlb := iv.lb_ cs1
            have hlimB := iv.lim_
            have pc := (pa cu s1).2 cs1
            have pc1 : gg cu = nI (1024 * M cu + (P cu).length) := pc.1
            have hkc : kyf N b M P cu = kc := by
              rw [← hkc0]
              show 1024 * M cu + (P cu).length + _ = 1024 * M0 cu + (P0 cu).length + _
              rw [(hcl cu hc).1, (hcl cu hc).2]
            have hc6 : c < N_n N := by omega
            obtain ⟨pe1, pe2, pe3, pe4⟩ := pair_e ok (xr cu) hac hc6
            have hfr := fr_lt ok (show a < 6 by omega) (show c < 6 by omega)
            refine aw_iload_n d_Planner_goByPairs_17 rfl ?_
            refine aw_aload_n d_Planner_goByPairs_18 rfl ?_
            refine aw_get (k := 4) d_Planner_goByPairs_19 cl_Planner k_Planner_40 (by decide) o35 rfl ?_
            refine aw_get (k := 0) d_Planner_goByPairs_22 cl_Night k_Planner_138 (by decide) n0 rfl ?_
            refine aw_icmp_ge (tgt := 114) d_Planner_goByPairs_25 (by decide) (fun c25 => ?_) (fun c25 => ?_)
            · exact absurd c25 (nI_ge (by omega) (by omega))
            · refine aw_aload_n d_Planner_goByPairs_28 rfl ?_
              refine aw_get (k := 8) d_Planner_goByPairs_29 cl_Planner k_Planner_15 (by decide) o35 rfl ?_
              refine aw_iload_n d_Planner_goByPairs_32 rfl ?_
              refine aw_ialoadN d_Planner_goByPairs_33 o37 s1 (by decide) ?_
              rw [pc1]
              refine aw_sipush (v := nI 2048) d_Planner_goByPairs_34 (by decide) ?_
              refine aw_aload_n d_Planner_goByPairs_37 rfl ?_
              refine aw_get (k := 4) d_Planner_goByPairs_38 cl_Planner k_Planner_40 (by decide) o35 rfl ?_
              refine aw_iload_n d_Planner_goByPairs_41 rfl ?_
              refine aw_iload_n d_Planner_goByPairs_42 rfl ?_
              refine aw_v0i (a := 2) d_Planner_goByPairs_43 k_Planner_141 ok_Night_far rfl ⟨rfl, rfl⟩ cl_Night n0 (c_far nX ok (show a < 6 by omega) (show c < 6 by omega)) rfl rfl (Nat.le_of_ble_eq_true rfl) ?_
              refine aw_imul d_Planner_goByPairs_46 ?_
              rw [pk_mul]
              refine aw_iadd d_Planner_goByPairs_47 ?_
              rw [nI_add]
              refine aw_iconst (v := nI 1) d_Planner_goByPairs_48 (by decide) ?_
              refine aw_iadd d_Planner_goByPairs_49 ?_
              rw [nI_add]
              refine aw_istore (L' := [some (.ref 35), some (.int (nI cu)), some (.int (nI a)), some (.int (nI (c))), some (.int (nI ((1024 * M cu + (P cu).length) + 2048 * fr N a c + 1)))]) d_Planner_goByPairs_50 ⟨by decide, rfl⟩ rfl ?_
              refine aw_aload_n d_Planner_goByPairs_52 rfl ?_
              refine aw_get (k := 4) d_Planner_goByPairs_53 cl_Planner k_Planner_40 (by decide) o35 rfl ?_
              refine aw_get (k := 7) d_Planner_goByPairs_56 cl_Night k_Planner_123 (by decide) n0 rfl ?_
              refine aw_iload_n d_Planner_goByPairs_59 rfl ?_
              refine aw_ishr d_Planner_goByPairs_60 ?_
              refine aw_aload_n d_Planner_goByPairs_61 rfl ?_
              refine aw_get (k := 4) d_Planner_goByPairs_62 cl_Planner k_Planner_40 (by decide) o35 rfl ?_
              refine aw_get (k := 7) d_Planner_goByPairs_65 cl_Night k_Planner_123 (by decide) n0 rfl ?_
              refine aw_iload_n d_Planner_goByPairs_68 rfl ?_
              refine aw_ishr d_Planner_goByPairs_69 ?_
              refine aw_ior d_Planner_goByPairs_70 ?_
              refine aw_iconst (v := nI 1) d_Planner_goByPairs_71 (by decide) ?_
              refine aw_iand d_Planner_goByPairs_72 ?_
              rw [b_shr hw31 (by omega), b_shr hw31 (by omega), fa_or, show nI (N_w N / 2 ^ a ||| N_w N / 2 ^ c) &&& nI 1 = nI ((N_w N / 2 ^ a ||| N_w N / 2 ^ c) % 2) from fa_mask _ 1]
              refine aw_if_ne (tgt := 108) d_Planner_goByPairs_73 (by decide) (fun c73 => ?_) (fun c73 => ?_)
              · refine aw_iinc (v := nI ((c) + 1)) (L' := [some (.ref 35), some (.int (nI cu)), some (.int (nI a)), some (.int (nI ((c) + 1))), some (.int (nI ((1024 * M cu + (P cu).length) + 2048 * fr N a c + 1)))]) d_Planner_goByPairs_108 rfl (nI_1 _) ⟨by decide, rfl⟩ rfl ?_
                refine aw_goto (tgt := 17) d_Planner_goByPairs_111 (by decide) ?_
                have step : ∀ j, j < 298 → sok N (xr cu) j → (j < 36 ∧ (j / 6 < a ∨ (j / 6 = a ∧ j % 6 < c + 1))) → (j < 36 ∧ (j / 6 < a ∨ (j / 6 = a ∧ j % 6 < c))) ∨ j = 6 * a + c := fun j _ _ h => by omega
                first
                  | exact aw_drop 4 (ihc (c + 1) _ (by omega) (by omega) ((QX.dn_ (dn2 := fun j => j < 36 ∧ (j / 6 < a ∨ (j / 6 = a ∧ j % 6 < c + 1))) ⟨lim2, sn2, M2, P2, F2, J2, qs2, Nat.le_trans l3 l1, l4.elim (fun z => l2.elim (fun y => Or.inl (z.trans y)) (fun y => Or.inr (by omega))) Or.inr, fun z hz => ⟨(hcl2 z hz).1.trans (hcl z hz).1, (hcl2 z hz).2.trans (hcl z hz).2⟩⟩ (fun j hj hs h => step j hj hs h))))
                  | exact aw_drop 4 (ihc (c + 1) hh (by omega) (by omega) ⟨lim, sn, M, P, F, J, ⟨kn, mi, me, gs, gg, gr, gf, gb, sz, gk, gt, gp, pl, pa, hp, iv.dn_ (fun j hj hs h => (step j hj hs h).imp id (fun e => Or.inl (by
                       have hq : lim < ((1024 * M cu + (P cu).length) + 2048 * fr N a c + 1) := (nI_ltI (by omega) (by omega)).mp c82
                       rw [e]
                       show lim < (1024 * M cu + (P cu).length) + 1024 * sco N (xr cu) (6 * a + c) + 1
                       rw [pe3]
                       omega)))⟩, l1, l2, hcl⟩)
                  | exact aw_drop 4 (ihc (c + 1) hh (by omega) (by omega) ⟨lim, sn, M, P, F, J, ⟨kn, mi, me, gs, gg, gr, gf, gb, sz, gk, gt, gp, pl, pa, hp, iv.dn_ (fun j hj hs h => (step j hj hs h).imp id (fun e => by
                       rw [e] at hs
                       have h9 := pe4.mp hs
                       exact absurd (show nI ((N_w N / 2 ^ a ||| N_w N / 2 ^ c) % 2) = 0 by rw [(or_2 _ _).mpr h9]; rfl) c73))⟩, l1, l2, hcl⟩)
              · refine aw_iload d_Planner_goByPairs_76 rfl ?_
                refine aw_aload_n d_Planner_goByPairs_78 rfl ?_
                refine aw_get (k := 7) d_Planner_goByPairs_79 cl_Planner k_Planner_57 (by decide) o35 rfl ?_
                refine aw_icmp_gt (tgt := 108) d_Planner_goByPairs_82 (by decide) (fun c82 => ?_) (fun c82 => ?_)
                · refine aw_iinc (v := nI ((c) + 1)) (L' := [some (.ref 35), some (.int (nI cu)), some (.int (nI a)), some (.int (nI ((c) + 1))), some (.int (nI ((1024 * M cu + (P cu).length) + 2048 * fr N a c + 1)))]) d_Planner_goByPairs_108 rfl (nI_1 _) ⟨by decide, rfl⟩ rfl ?_
                  refine aw_goto (tgt := 17) d_Planner_goByPairs_111 (by decide) ?_
                  have step : ∀ j, j < 298 → sok N (xr cu) j → (j < 36 ∧ (j / 6 < a ∨ (j / 6 = a ∧ j % 6 < c + 1))) → (j < 36 ∧ (j / 6 < a ∨ (j / 6 = a ∧ j % 6 < c))) ∨ j = 6 * a + c := fun j _ _ h => by omega
                  first
                    | exact aw_drop 4 (ihc (c + 1) _ (by omega) (by omega) ((QX.dn_ (dn2 := fun j => j < 36 ∧ (j / 6 < a ∨ (j / 6 = a ∧ j % 6 < c + 1))) ⟨lim2, sn2, M2, P2, F2, J2, qs2, Nat.le_trans l3 l1, l4.elim (fun z => l2.elim (fun y => Or.inl (z.trans y)) (fun y => Or.inr (by omega))) Or.inr, fun z hz => ⟨(hcl2 z hz).1.trans (hcl z hz).1, (hcl2 z hz).2.trans (hcl z hz).2⟩⟩ (fun j hj hs h => step j hj hs h))))
                    | exact aw_drop 4 (ihc (c + 1) hh (by omega) (by omega) ⟨lim, sn, M, P, F, J, ⟨kn, mi, me, gs, gg, gr, gf, gb, sz, gk, gt, gp, pl, pa, hp, iv.dn_ (fun j hj hs h => (step j hj hs h).imp id (fun e => Or.inl (by
                         have hq : lim < ((1024 * M cu + (P cu).length) + 2048 * fr N a c + 1) := (nI_ltI (by omega) (by omega)).mp c82
                         rw [e]
                         show lim < (1024 * M cu + (P cu).length) + 1024 * sco N (xr cu) (6 * a + c) + 1
                         rw [pe3]
                         omega)))⟩, l1, l2, hcl⟩)
                    | exact aw_drop 4 (ihc (c + 1) hh (by omega) (by omega) ⟨lim, sn, M, P, F, J, ⟨kn, mi, me, gs, gg, gr, gf, gb, sz, gk, gt, gp, pl, pa, hp, iv.dn_ (fun j hj hs h => (step j hj hs h).imp id (fun e => by
                         rw [e] at hs
                         have h9 := pe4.mp hs
                         exact absurd (show nI ((N_w N / 2 ^ a ||| N_w N / 2 ^ c) % 2) = 0 by rw [(or_2 _ _).mpr h9]; rfl) c73))⟩, l1, l2, hcl⟩)
                · refine aw_aload_n d_Planner_goByPairs_85 rfl ?_
                  refine aw_iload_n d_Planner_goByPairs_86 rfl ?_
                  refine aw_iload_n d_Planner_goByPairs_87 rfl ?_
                  refine aw_iload_n d_Planner_goByPairs_88 rfl ?_
                  refine aw_s0i d_Planner_goByPairs_89 k_Planner_144 ok_Meetings_pair rfl ⟨rfl, rfl⟩ c_mpair rfl rfl (Nat.le_of_ble_eq_true rfl) ?_
                  refine aw_aload_n d_Planner_goByPairs_92 rfl ?_
                  refine aw_get (k := 9) d_Planner_goByPairs_93 cl_Planner k_Planner_18 (by decide) o35 rfl ?_
                  refine aw_iload_n d_Planner_goByPairs_96 rfl ?_
                  refine aw_ialoadN d_Planner_goByPairs_97 o38 s1 (by decide) ?_
                  rw [pc.2.1]
                  refine aw_iload_n d_Planner_goByPairs_98 rfl ?_
                  refine aw_iload_n d_Planner_goByPairs_99 rfl ?_
                  refine aw_s0i d_Planner_goByPairs_100 k_Planner_147 ok_Rows_swapped rfl ⟨rfl, rfl⟩ (c_swapped s2.1.lt8 (show a < 6 by omega) (show c < 6 by omega)) rfl rfl (Nat.le_of_ble_eq_true rfl) ?_
                  refine aw_iload d_Planner_goByPairs_103 rfl ?_
                  have hs9 : sok N (xr cu) (6 * a + c) := pe4.mpr ((or_2 _ _).mp ((nI_eq (b := 0) (by omega) (by decide)).mp c73))
                  have key := c_reach (m := m) hX ok eb qs hc hkc (show 6 * a + c < 298 by omega) hs9 (lab := ((1024 * M cu + (P cu).length) + 2048 * fr N a c + 1)) (by
                    show (1024 * M cu + (P cu).length) + 1024 * sco N (xr cu) (6 * a + c) + 1 = _
                    rw [pe3]
                    omega)
                  rw [pe1, pe2] at key
                  refine aw_v0 (a := 35) d_Planner_goByPairs_105 k_Planner_75 ok_Planner_reach rfl ⟨rfl, rfl⟩ cl_Planner o35 key rfl rfl (Nat.le_of_ble_eq_true rfl) (fun r9 m2 h2 z => ?_)
                  obtain ⟨rfl, em, lim2, sn2, M2, P2, F2, J2, qs2, l3, l4, hcl2⟩ := z
                  rw [em]
                  show ab_W _ _ _ _ 108 _ [] _ _ _
                  refine aw_iinc (v := nI ((c) + 1)) (L' := [some (.ref 35), some (.int (nI cu)), some (.int (nI a)), some (.int (nI ((c) + 1))), some (.int (nI ((1024 * M cu + (P cu).length) + 2048 * fr N a c + 1)))]) d_Planner_goByPairs_108 rfl (nI_1 _) ⟨by decide, rfl⟩ rfl ?_
                  refine aw_goto (tgt := 17) d_Planner_goByPairs_111 (by decide) ?_
                  have step : ∀ j, j < 298 → sok N (xr cu) j → (j < 36 ∧ (j / 6 < a ∨ (j / 6 = a ∧ j % 6 < c + 1))) → (j < 36 ∧ (j / 6 < a ∨ (j / 6 = a ∧ j % 6 < c))) ∨ j = 6 * a + c := fun j _ _ h => by omega
                  first
                    | exact aw_drop 4 (ihc (c + 1) _ (by omega) (by omega) ((QX.dn_ (dn2 := fun j => j < 36 ∧ (j / 6 < a ∨ (j / 6 = a ∧ j % 6 < c + 1))) ⟨lim2, sn2, M2, P2, F2, J2, qs2, Nat.le_trans l3 l1, l4.elim (fun z => l2.elim (fun y => Or.inl (z.trans y)) (fun y => Or.inr (by omega))) Or.inr, fun z hz => ⟨(hcl2 z hz).1.trans (hcl z hz).1, (hcl2 z hz).2.trans (hcl z hz).2⟩⟩ (fun j hj hs h => step j hj hs h))))
                    | exact aw_drop 4 (ihc (c + 1) hh (by omega) (by omega) ⟨lim, sn, M, P, F, J, ⟨kn, mi, me, gs, gg, gr, gf, gb, sz, gk, gt, gp, pl, pa, hp, iv.dn_ (fun j hj hs h => (step j hj hs h).imp id (fun e => Or.inl (by
                         have hq : lim < ((1024 * M cu + (P cu).length) + 2048 * fr N a c + 1) := (nI_ltI (by omega) (by omega)).mp c82
                         rw [e]
                         show lim < (1024 * M cu + (P cu).length) + 1024 * sco N (xr cu) (6 * a + c) + 1
                         rw [pe3]
                         omega)))⟩, l1, l2, hcl⟩)
                    | exact aw_drop 4 (ihc (c + 1) hh (by omega) (by omega) ⟨lim, sn, M, P, F, J, ⟨kn, mi, me, gs, gg, gr, gf, gb, sz, gk, gt, gp, pl, pa, hp, iv.dn_ (fun j hj hs h => (step j hj hs h).imp id (fun e => by
                         rw [e] at hs
                         have h9 := pe4.mp hs
                         exact absurd (show nI ((N_w N / 2 ^ a ||| N_w N / 2 ^ c) % 2) = 0 by rw [(or_2 _ _).mpr h9]; rfl) c73))⟩, l1, l2, hcl⟩)
        exact loopc (N_n N - (a + 1)) (a + 1) hh (by omega) (by omega) (qx.dn_ (fun j hj hs h => by
          have := pair_j ok s2 h.1 hs
          exact ⟨h.1, by omega⟩))
  refine aw_iconst (v := nI 0) d_Planner_goByPairs_0 (by decide) ?_
  refine aw_istore_n (L' := [some (.ref 35), some (.int (nI cu)), some (.int (nI 0)), none, none]) d_Planner_goByPairs_1 ⟨by decide, rfl⟩ rfl ?_
  exact loopa (N_n N) 0 hh (by omega) (qx.dn_ (fun j hj hs h => by omega))
theorem c_goByInns {m : Nat} {h hh : ab_H} {N : NS} (hX : NX h 2 N) (ok : N_ok N) {b : Nat} (eb : bnd (N_n N) (N_w N) (N_t N) = b) {K cu : Nat} {kc lim0 : Nat} {go : Int32} {gi gm : Nat → Int32} {cl : Nat → Prop} {M0 : Nat → Nat} {P0 : Nat → List Nat} (hc : cl cu) (hkc0 : kyf N b M0 P0 cu = kc) (now : ow (xr cu) b = false) (ins : ∀ t, t < 64 → INs N t (gi t) (gm t)) (qx : QX N b h hh K cu (fun j => j < 36) kc lim0 go gi gm cl M0 P0) : ab_C Y_Planner_goByInns [.ref 35, .int (nI cu)] m hh (fun r9 m2 h2 => r9 = none ∧ m2 = m ∧ QX N b h h2 K cu (fun j => j < 292) kc lim0 go gi gm cl M0 P0) := by
  have hn6 := ok.1
  have hns : N_ns N ≤ 4 := ok.2.2.2.2.2.2.2.2.1
  have hw6 := ok.w6
  have hw31 : N_w N < 2 ^ 31 := by omega
  have h2n := b_63 _ hn6
  refine ab_C.of (L := [some (.ref 35), some (.int (nI cu)), none, none]) rfl rfl (Nat.le_of_ble_eq_true rfl) (fun l => ?_)
  have loops : ∀ f s (hh : ab_H), s + f = 64 → 3 ≤ s → QX N b h hh K cu (fun j => j < 36 ∨ (j < 292 ∧ (j - 36) % 64 < s)) kc lim0 go gi gm cl M0 P0 → ab_W Y_Planner_goByInns none l (fun r9 m2 h2 => r9 = none ∧ m2 = m ∧ QX N b h h2 K cu (fun j => j < 292) kc lim0 go gi gm cl M0 P0) 2 [some (.ref 35), some (.int (nI cu)), some (.int (nI s)), none] [] m hh (0, 0) := by
    intro f
    induction f with
    | zero =>
      intro s hh hs h3 qx
      obtain ⟨lim, sn, M, P, F, J, qs, l1, l2, hcl⟩ := id qx
      obtain ⟨kn, mi, me, gs, gg, gr, gf, gb, sz, gk, gt, gp, pl, pa, hp, iv⟩ := id qs
      obtain ⟨o35, o36, o37, o38, o39, o40, o41, o42, o43, o44, o45, o46, ofr⟩ := id pl
      have nX : NX hh 2 N := hX.fr (fun k _ _ => ofr k (by omega))
      have n0 := nX.1
      have hK := iv.K_
      have cs1 := (iv.2.1 cu hc).1
      obtain ⟨s1, s2, s3, s4, s5, s6, s7⟩ := iv.1 cu cs1
      have hlb := iv.lb_ cs1
      have hlimB := iv.lim_
      have pc := (pa cu s1).2 cs1
      have pc1 : gg cu = nI (1024 * M cu + (P cu).length) := pc.1
      have hkc : kyf N b M P cu = kc := by
        rw [← hkc0]
        show 1024 * M cu + (P cu).length + _ = 1024 * M0 cu + (P0 cu).length + _
        rw [(hcl cu hc).1, (hcl cu hc).2]
      refine aw_iload_n d_Planner_goByInns_2 rfl ?_
      refine aw_aload_n d_Planner_goByInns_3 rfl ?_
      refine aw_get (k := 4) d_Planner_goByInns_4 cl_Planner k_Planner_40 (by decide) o35 rfl ?_
      refine aw_v0i (a := 2) d_Planner_goByInns_7 k_Planner_111 ok_Night_all rfl ⟨rfl, rfl⟩ cl_Night n0 (c_all2 n0 hn6) rfl rfl (Nat.le_of_ble_eq_true rfl) ?_
      refine aw_icmp_gt (tgt := 78) d_Planner_goByInns_10 (by decide) (fun c10 => ?_) (fun c10 => ?_)
      · refine aw_return d_Planner_goByInns_78 rfl ?_
        have hq : 2 ^ N_n N - 1 < s := (nI_ltI (by omega) (by omega)).mp c10
        exact ⟨rfl, rfl, qx.dn_ (fun j hj hs h => by
          by_cases e : j < 36
          · exact Or.inl e
          · have ee : j = 36 + 64 * ((j - 36) / 64) + (j - 36) % 64 := by omega
            rw [ee] at hs
            have := ((inn_e (N := N) (xr cu) (show (j - 36) / 64 < 4 by omega) (show (j - 36) % 64 < 64 by omega)).1.mp hs).2.1
            exact Or.inr ⟨h, by omega⟩)⟩
      · exact absurd (nI_lt (show 2 ^ N_n N - 1 < s by omega) (by omega)) c10
    | succ f ihs =>
      intro s hh hs h3 qx
      obtain ⟨lim, sn, M, P, F, J, qs, l1, l2, hcl⟩ := id qx
      obtain ⟨kn, mi, me, gs, gg, gr, gf, gb, sz, gk, gt, gp, pl, pa, hp, iv⟩ := id qs
      obtain ⟨o35, o36, o37, o38, o39, o40, o41, o42, o43, o44, o45, o46, ofr⟩ := id pl
      have nX : NX hh 2 N := hX.fr (fun k _ _ => ofr k (by omega))
      have n0 := nX.1
      have hK := iv.K_
      have cs1 := (iv.2.1 cu hc).1
      obtain ⟨s1, s2, s3, s4, s5, s6, s7⟩ := iv.1 cu cs1
      have hlb := iv.lb_ cs1
      have hlimB := iv.lim_
      have pc := (pa cu s1).2 cs1
      have pc1 : gg cu = nI (1024 * M cu + (P cu).length) := pc.1
      have hkc : kyf N b M P cu = kc := by
        rw [← hkc0]
        show 1024 * M cu + (P cu).length + _ = 1024 * M0 cu + (P0 cu).length + _
        rw [(hcl cu hc).1, (hcl cu hc).2]
      refine aw_iload_n d_Planner_goByInns_2 rfl ?_
      refine aw_aload_n d_Planner_goByInns_3 rfl ?_
      refine aw_get (k := 4) d_Planner_goByInns_4 cl_Planner k_Planner_40 (by decide) o35 rfl ?_
      refine aw_v0i (a := 2) d_Planner_goByInns_7 k_Planner_111 ok_Night_all rfl ⟨rfl, rfl⟩ cl_Night n0 (c_all2 n0 hn6) rfl rfl (Nat.le_of_ble_eq_true rfl) ?_
      refine aw_icmp_gt (tgt := 78) d_Planner_goByInns_10 (by decide) (fun c10 => ?_) (fun c10 => ?_)
      · refine aw_return d_Planner_goByInns_78 rfl ?_
        have hq : 2 ^ N_n N - 1 < s := (nI_ltI (by omega) (by omega)).mp c10
        exact ⟨rfl, rfl, qx.dn_ (fun j hj hs h => by
          by_cases e : j < 36
          · exact Or.inl e
          · have ee : j = 36 + 64 * ((j - 36) / 64) + (j - 36) % 64 := by omega
            rw [ee] at hs
            have := ((inn_e (N := N) (xr cu) (show (j - 36) / 64 < 4 by omega) (show (j - 36) % 64 < 64 by omega)).1.mp hs).2.1
            exact Or.inr ⟨h, by omega⟩)⟩
      · have hsn : s ≤ 2 ^ N_n N - 1 := Nat.not_lt.mp (fun z => c10 (nI_lt z (by omega)))
        have dec : ∀ j, (j < 36 ∨ (j < 292 ∧ (j - 36) % 64 < s + 1)) → (j < 36 ∨ (j < 292 ∧ (j - 36) % 64 < s)) ∨ ∃ i2, i2 < 4 ∧ j = 36 + 64 * i2 + s := fun j h => by
          by_cases e : 36 ≤ j ∧ j < 292 ∧ (j - 36) % 64 = s
          · exact Or.inr ⟨(j - 36) / 64, by omega, by omega⟩
          · exact Or.inl (by omega)
        refine aw_aload_n d_Planner_goByInns_13 rfl ?_
        refine aw_get (k := 8) d_Planner_goByInns_14 cl_Planner k_Planner_15 (by decide) o35 rfl ?_
        refine aw_iload_n d_Planner_goByInns_17 rfl ?_
        refine aw_ialoadN d_Planner_goByInns_18 o37 s1 (by decide) ?_
        rw [pc1]
        refine aw_sipush (v := nI 1024) d_Planner_goByInns_19 (by decide) ?_
        refine aw_aload_n d_Planner_goByInns_22 rfl ?_
        refine aw_get (k := 13) d_Planner_goByInns_23 cl_Planner k_Planner_34 (by decide) o35 rfl ?_
        refine aw_iload_n d_Planner_goByInns_26 rfl ?_
        refine aw_ialoadN d_Planner_goByInns_27 o45 (by omega) (by decide) ?_
        refine aw_imul d_Planner_goByInns_28 ?_
        refine aw_iadd d_Planner_goByInns_29 ?_
        refine aw_iconst (v := nI 1) d_Planner_goByInns_30 (by decide) ?_
        refine aw_iadd d_Planner_goByInns_31 ?_
        refine aw_topi (fun v32 ev32 => ?_)
        refine aw_istore_n (L' := [some (.ref 35), some (.int (nI cu)), some (.int (nI s)), some (.int v32)]) d_Planner_goByInns_32 ⟨by decide, rfl⟩ rfl ?_
        refine aw_aload_n d_Planner_goByInns_33 rfl ?_
        refine aw_get (k := 14) d_Planner_goByInns_34 cl_Planner k_Planner_37 (by decide) o35 rfl ?_
        refine aw_iload_n d_Planner_goByInns_37 rfl ?_
        refine aw_ialoadN d_Planner_goByInns_38 o46 (by omega) (by decide) ?_
        refine aw_if_eq (tgt := 72) d_Planner_goByInns_39 (by decide) (fun c39 => ?_) (fun c39 => ?_)
        · refine aw_iinc (v := nI (s + 1)) (L' := [some (.ref 35), some (.int (nI cu)), some (.int (nI (s + 1))), some (.int v32)]) d_Planner_goByInns_72 rfl (nI_1 _) ⟨by decide, rfl⟩ rfl ?_
          refine aw_goto (tgt := 2) d_Planner_goByInns_75 (by decide) ?_
          first
            | (obtain ⟨kn2, mi2, me2, gs2, gg2, gr2, gf2, gb2, sz2, gk2, gt2, gp2, pl2, pa2, hp2, iv2⟩ := qs2
               have ed := iv2.2.2.2.1 cu hc now (36 + 64 * i + s) (by omega) hs9 (fun _ => Or.inr rfl)
               have iv3 := iv2.dn_ (dn2 := fun j => j < 36 ∨ (j < 292 ∧ (j - 36) % 64 < s + 1)) (fun j hj hs h => by
                 rcases dec j h with y | ⟨i2, y1, y2⟩
                 · exact Or.inl (Or.inl y)
                 · refine Or.inr ?_
                   rw [y2] at hs ⊢
                   have ee := inn_e (N := N) (xr cu) y1 (show s < 64 by omega)
                   have ns2 := (ee.1.mp hs).1
                   obtain ⟨ee1, ee2⟩ := ee.2 ns2 vd.1
                   refine ed.wk (by show rk (sto N (xr cu) _) = rk (sto N (xr cu) _); rw [ee1, ie1]) ?_
                   show 1024 * M2 cu + (P2 cu).length + 1024 * sco N (xr cu) (36 + 64 * i + s) + 1 < 1024 * M2 cu + (P2 cu).length + 1024 * sco N (xr cu) (36 + 64 * i2 + s) + 1 ∨ (1024 * M2 cu + (P2 cu).length + 1024 * sco N (xr cu) (36 + 64 * i + s) + 1 = 1024 * M2 cu + (P2 cu).length + 1024 * sco N (xr cu) (36 + 64 * i2 + s) + 1 ∧ _)
                   rw [ie2, ee2]
                   have h5 := q4 i2 ns2
                   by_cases z : i2 < i
                   · have h6 := q5 i2 z
                     omega
                   · omega)
               exact aw_drop 3 (ihs (s + 1) _ (by omega) (by omega) ⟨lim2, sn2, M2, P2, F2, J2, ⟨kn2, mi2, me2, gs2, gg2, gr2, gf2, gb2, sz2, gk2, gt2, gp2, pl2, pa2, hp2, iv3⟩, Nat.le_trans l3 l1, l4.elim (fun z => l2.elim (fun y => Or.inl (z.trans y)) (fun y => Or.inr (by omega))) Or.inr, fun z hz => ⟨(hcl2 z hz).1.trans (hcl z hz).1, (hcl2 z hz).2.trans (hcl z hz).2⟩⟩))
            | exact aw_drop 3 (ihs (s + 1) hh (by omega) (by omega) ⟨lim, sn, M, P, F, J, ⟨kn, mi, me, gs, gg, gr, gf, gb, sz, gk, gt, gp, pl, pa, hp, iv.dn_ (fun j hj hs h => (dec j h).imp id (fun y => by
                 obtain ⟨i2, y1, y2⟩ := y
                 rw [y2] at hs ⊢
                 have hq : lim < ((1024 * M cu + (P cu).length) + 1024 * (2 * toI N i s (N_n N)) + 1) := (nI_ltI (by omega) (by omega)).mp c47
                 have ee := inn_e (N := N) (xr cu) y1 (show s < 64 by omega)
                 have ns2 := (ee.1.mp hs).1
                 obtain ⟨ee1, ee2⟩ := ee.2 ns2 vd.1
                 have h5 := q4 i2 ns2
                 refine Or.inl ?_
                 show lim < (1024 * M cu + (P cu).length) + 1024 * sco N (xr cu) (36 + 64 * i2 + s) + 1
                 rw [ee2]
                 omega))⟩, l1, l2, hcl⟩)
            | exact aw_drop 3 (ihs (s + 1) hh (by omega) (by omega) ⟨lim, sn, M, P, F, J, ⟨kn, mi, me, gs, gg, gr, gf, gb, sz, gk, gt, gp, pl, pa, hp, iv.dn_ (fun j hj hs h => (dec j h).imp id (fun y => by
                 obtain ⟨i2, y1, y2⟩ := y
                 rw [y2] at hs
                 have ee := (inn_e (N := N) (xr cu) y1 (show s < 64 by omega)).1.mp hs
                 obtain ⟨i, q1, q2, _⟩ := (ins s (by omega)).2 ⟨ee.2, by omega⟩
                 rw [q2, fa_eq, nI_toInt (by omega), show ((0 : Int32)).toInt = 0 from by decide] at c39
                 omega))⟩, l1, l2, hcl⟩)
        · have vd : vld N s ∧ 0 < N_ns N := Classical.byContradiction (fun z => c39 (by rw [(ins s (by omega)).1 z]; rfl))
          obtain ⟨i, q1, q2, q3, q4, q5⟩ := (ins s (by omega)).2 vd
          have tb := toI_lt ok (show i < 4 by omega) s hn6
          have ie := inn_e (N := N) (xr cu) (show i < 4 by omega) (show s < 64 by omega)
          have hs9 := ie.1.mpr ⟨q1, vd.1⟩
          obtain ⟨ie1, ie2⟩ := ie.2 q1 vd.1
          obtain rfl : v32 = nI ((1024 * M cu + (P cu).length) + 1024 * (2 * toI N i s (N_n N)) + 1) := by
            rw [ev32, q3, pk_mul, nI_add, nI_add]
          refine aw_iload_n d_Planner_goByInns_42 rfl ?_
          refine aw_aload_n d_Planner_goByInns_43 rfl ?_
          refine aw_get (k := 7) d_Planner_goByInns_44 cl_Planner k_Planner_57 (by decide) o35 rfl ?_
          refine aw_icmp_gt (tgt := 72) d_Planner_goByInns_47 (by decide) (fun c47 => ?_) (fun c47 => ?_)
          · refine aw_iinc (v := nI (s + 1)) (L' := [some (.ref 35), some (.int (nI cu)), some (.int (nI (s + 1))), some (.int (nI ((1024 * M cu + (P cu).length) + 1024 * (2 * toI N i s (N_n N)) + 1)))]) d_Planner_goByInns_72 rfl (nI_1 _) ⟨by decide, rfl⟩ rfl ?_
            refine aw_goto (tgt := 2) d_Planner_goByInns_75 (by decide) ?_
            first
              | (obtain ⟨kn2, mi2, me2, gs2, gg2, gr2, gf2, gb2, sz2, gk2, gt2, gp2, pl2, pa2, hp2, iv2⟩ := qs2
                 have ed := iv2.2.2.2.1 cu hc now (36 + 64 * i + s) (by omega) hs9 (fun _ => Or.inr rfl)
                 have iv3 := iv2.dn_ (dn2 := fun j => j < 36 ∨ (j < 292 ∧ (j - 36) % 64 < s + 1)) (fun j hj hs h => by
                   rcases dec j h with y | ⟨i2, y1, y2⟩
                   · exact Or.inl (Or.inl y)
                   · refine Or.inr ?_
                     rw [y2] at hs ⊢
                     have ee := inn_e (N := N) (xr cu) y1 (show s < 64 by omega)
                     have ns2 := (ee.1.mp hs).1
                     obtain ⟨ee1, ee2⟩ := ee.2 ns2 vd.1
                     refine ed.wk (by show rk (sto N (xr cu) _) = rk (sto N (xr cu) _); rw [ee1, ie1]) ?_
                     show 1024 * M2 cu + (P2 cu).length + 1024 * sco N (xr cu) (36 + 64 * i + s) + 1 < 1024 * M2 cu + (P2 cu).length + 1024 * sco N (xr cu) (36 + 64 * i2 + s) + 1 ∨ (1024 * M2 cu + (P2 cu).length + 1024 * sco N (xr cu) (36 + 64 * i + s) + 1 = 1024 * M2 cu + (P2 cu).length + 1024 * sco N (xr cu) (36 + 64 * i2 + s) + 1 ∧ _)
                     rw [ie2, ee2]
                     have h5 := q4 i2 ns2
                     by_cases z : i2 < i
                     · have h6 := q5 i2 z
                       omega
                     · omega)
                 exact aw_drop 3 (ihs (s + 1) _ (by omega) (by omega) ⟨lim2, sn2, M2, P2, F2, J2, ⟨kn2, mi2, me2, gs2, gg2, gr2, gf2, gb2, sz2, gk2, gt2, gp2, pl2, pa2, hp2, iv3⟩, Nat.le_trans l3 l1, l4.elim (fun z => l2.elim (fun y => Or.inl (z.trans y)) (fun y => Or.inr (by omega))) Or.inr, fun z hz => ⟨(hcl2 z hz).1.trans (hcl z hz).1, (hcl2 z hz).2.trans (hcl z hz).2⟩⟩))
              | exact aw_drop 3 (ihs (s + 1) hh (by omega) (by omega) ⟨lim, sn, M, P, F, J, ⟨kn, mi, me, gs, gg, gr, gf, gb, sz, gk, gt, gp, pl, pa, hp, iv.dn_ (fun j hj hs h => (dec j h).imp id (fun y => by
                   obtain ⟨i2, y1, y2⟩ := y
                   rw [y2] at hs ⊢
                   have hq : lim < ((1024 * M cu + (P cu).length) + 1024 * (2 * toI N i s (N_n N)) + 1) := (nI_ltI (by omega) (by omega)).mp c47
                   have ee := inn_e (N := N) (xr cu) y1 (show s < 64 by omega)
                   have ns2 := (ee.1.mp hs).1
                   obtain ⟨ee1, ee2⟩ := ee.2 ns2 vd.1
                   have h5 := q4 i2 ns2
                   refine Or.inl ?_
                   show lim < (1024 * M cu + (P cu).length) + 1024 * sco N (xr cu) (36 + 64 * i2 + s) + 1
                   rw [ee2]
                   omega))⟩, l1, l2, hcl⟩)
              | exact aw_drop 3 (ihs (s + 1) hh (by omega) (by omega) ⟨lim, sn, M, P, F, J, ⟨kn, mi, me, gs, gg, gr, gf, gb, sz, gk, gt, gp, pl, pa, hp, iv.dn_ (fun j hj hs h => (dec j h).imp id (fun y => by
                   obtain ⟨i2, y1, y2⟩ := y
                   rw [y2] at hs
                   have ee := (inn_e (N := N) (xr cu) y1 (show s < 64 by omega)).1.mp hs
                   obtain ⟨i, q1, q2, _⟩ := (ins s (by omega)).2 ⟨ee.2, by omega⟩
                   rw [q2, fa_eq, nI_toInt (by omega), show ((0 : Int32)).toInt = 0 from by decide] at c39
                   omega))⟩, l1, l2, hcl⟩)
          · refine aw_aload_n d_Planner_goByInns_50 rfl ?_
            refine aw_iload_n d_Planner_goByInns_51 rfl ?_
            refine aw_aload_n d_Planner_goByInns_52 rfl ?_
            refine aw_get (k := 14) d_Planner_goByInns_53 cl_Planner k_Planner_37 (by decide) o35 rfl ?_
            refine aw_iload_n d_Planner_goByInns_56 rfl ?_
            refine aw_ialoadN d_Planner_goByInns_57 o46 (by omega) (by decide) ?_
            rw [q2]
            refine aw_aload_n d_Planner_goByInns_58 rfl ?_
            refine aw_get (k := 9) d_Planner_goByInns_59 cl_Planner k_Planner_18 (by decide) o35 rfl ?_
            refine aw_iload_n d_Planner_goByInns_62 rfl ?_
            refine aw_ialoadN d_Planner_goByInns_63 o38 s1 (by decide) ?_
            rw [pc.2.1]
            refine aw_iload_n d_Planner_goByInns_64 rfl ?_
            refine aw_s0i d_Planner_goByInns_65 k_Planner_151 ok_Rows_settled rfl ⟨rfl, rfl⟩ (c_settled s2.1 (show s < 64 by omega)) rfl rfl (Nat.le_of_ble_eq_true rfl) ?_
            refine aw_iload_n d_Planner_goByInns_68 rfl ?_
            have key := c_reach (m := m) hX ok eb qs hc hkc (show 36 + 64 * i + s < 298 by omega) hs9 (lab := ((1024 * M cu + (P cu).length) + 1024 * (2 * toI N i s (N_n N)) + 1)) (by
              show (1024 * M cu + (P cu).length) + 1024 * sco N (xr cu) (36 + 64 * i + s) + 1 = _
              rw [ie2])
            rw [inn_m (show i < 4 by omega) (show s < 64 by omega), ie1] at key
            refine aw_v0 (a := 35) d_Planner_goByInns_69 k_Planner_75 ok_Planner_reach rfl ⟨rfl, rfl⟩ cl_Planner o35 key rfl rfl (Nat.le_of_ble_eq_true rfl) (fun r9 m2 h2 z => ?_)
            obtain ⟨rfl, em, lim2, sn2, M2, P2, F2, J2, qs2, l3, l4, hcl2⟩ := z
            rw [em]
            show ab_W _ _ _ _ 72 _ [] _ _ _
            refine aw_iinc (v := nI (s + 1)) (L' := [some (.ref 35), some (.int (nI cu)), some (.int (nI (s + 1))), some (.int (nI ((1024 * M cu + (P cu).length) + 1024 * (2 * toI N i s (N_n N)) + 1)))]) d_Planner_goByInns_72 rfl (nI_1 _) ⟨by decide, rfl⟩ rfl ?_
            refine aw_goto (tgt := 2) d_Planner_goByInns_75 (by decide) ?_
            first
              | (obtain ⟨kn2, mi2, me2, gs2, gg2, gr2, gf2, gb2, sz2, gk2, gt2, gp2, pl2, pa2, hp2, iv2⟩ := qs2
                 have ed := iv2.2.2.2.1 cu hc now (36 + 64 * i + s) (by omega) hs9 (fun _ => Or.inr rfl)
                 have iv3 := iv2.dn_ (dn2 := fun j => j < 36 ∨ (j < 292 ∧ (j - 36) % 64 < s + 1)) (fun j hj hs h => by
                   rcases dec j h with y | ⟨i2, y1, y2⟩
                   · exact Or.inl (Or.inl y)
                   · refine Or.inr ?_
                     rw [y2] at hs ⊢
                     have ee := inn_e (N := N) (xr cu) y1 (show s < 64 by omega)
                     have ns2 := (ee.1.mp hs).1
                     obtain ⟨ee1, ee2⟩ := ee.2 ns2 vd.1
                     refine ed.wk (by show rk (sto N (xr cu) _) = rk (sto N (xr cu) _); rw [ee1, ie1]) ?_
                     show 1024 * M2 cu + (P2 cu).length + 1024 * sco N (xr cu) (36 + 64 * i + s) + 1 < 1024 * M2 cu + (P2 cu).length + 1024 * sco N (xr cu) (36 + 64 * i2 + s) + 1 ∨ (1024 * M2 cu + (P2 cu).length + 1024 * sco N (xr cu) (36 + 64 * i + s) + 1 = 1024 * M2 cu + (P2 cu).length + 1024 * sco N (xr cu) (36 + 64 * i2 + s) + 1 ∧ _)
                     rw [ie2, ee2]
                     have h5 := q4 i2 ns2
                     by_cases z : i2 < i
                     · have h6 := q5 i2 z
                       omega
                     · omega)
                 exact aw_drop 3 (ihs (s + 1) _ (by omega) (by omega) ⟨lim2, sn2, M2, P2, F2, J2, ⟨kn2, mi2, me2, gs2, gg2, gr2, gf2, gb2, sz2, gk2, gt2, gp2, pl2, pa2, hp2, iv3⟩, Nat.le_trans l3 l1, l4.elim (fun z => l2.elim (fun y => Or.inl (z.trans y)) (fun y => Or.inr (by omega))) Or.inr, fun z hz => ⟨(hcl2 z hz).1.trans (hcl z hz).1, (hcl2 z hz).2.trans (hcl z hz).2⟩⟩))
              | exact aw_drop 3 (ihs (s + 1) hh (by omega) (by omega) ⟨lim, sn, M, P, F, J, ⟨kn, mi, me, gs, gg, gr, gf, gb, sz, gk, gt, gp, pl, pa, hp, iv.dn_ (fun j hj hs h => (dec j h).imp id (fun y => by
                   obtain ⟨i2, y1, y2⟩ := y
                   rw [y2] at hs ⊢
                   have hq : lim < ((1024 * M cu + (P cu).length) + 1024 * (2 * toI N i s (N_n N)) + 1) := (nI_ltI (by omega) (by omega)).mp c47
                   have ee := inn_e (N := N) (xr cu) y1 (show s < 64 by omega)
                   have ns2 := (ee.1.mp hs).1
                   obtain ⟨ee1, ee2⟩ := ee.2 ns2 vd.1
                   have h5 := q4 i2 ns2
                   refine Or.inl ?_
                   show lim < (1024 * M cu + (P cu).length) + 1024 * sco N (xr cu) (36 + 64 * i2 + s) + 1
                   rw [ee2]
                   omega))⟩, l1, l2, hcl⟩)
              | exact aw_drop 3 (ihs (s + 1) hh (by omega) (by omega) ⟨lim, sn, M, P, F, J, ⟨kn, mi, me, gs, gg, gr, gf, gb, sz, gk, gt, gp, pl, pa, hp, iv.dn_ (fun j hj hs h => (dec j h).imp id (fun y => by
                   obtain ⟨i2, y1, y2⟩ := y
                   rw [y2] at hs
                   have ee := (inn_e (N := N) (xr cu) y1 (show s < 64 by omega)).1.mp hs
                   obtain ⟨i, q1, q2, _⟩ := (ins s (by omega)).2 ⟨ee.2, by omega⟩
                   rw [q2, fa_eq, nI_toInt (by omega), show ((0 : Int32)).toInt = 0 from by decide] at c39
                   omega))⟩, l1, l2, hcl⟩)
  refine aw_iconst (v := nI 3) d_Planner_goByInns_0 (by decide) ?_
  refine aw_istore_n (L' := [some (.ref 35), some (.int (nI cu)), some (.int (nI 3)), none]) d_Planner_goByInns_1 ⟨by decide, rfl⟩ rfl ?_
  exact loops 61 3 hh (by omega) (Nat.le_refl _) (qx.dn_ (fun j hj hs h => by
    by_cases e : j < 36
    · exact e
    · exfalso
      have ee : j = 36 + 64 * ((j - 36) / 64) + (j - 36) % 64 := by omega
      rw [ee] at hs
      have y := ((inn_e (N := N) (xr cu) (show (j - 36) / 64 < 4 by omega) (show (j - 36) % 64 < 64 by omega)).1.mp hs).2.2.1
      have : (j - 36) % 64 = 0 ∨ (j - 36) % 64 = 1 ∨ (j - 36) % 64 = 2 := by omega
      rcases this with e | e | e <;> (rw [e] at y; exact absurd y (by decide))))
theorem c_goByPosts {m : Nat} {h hh : ab_H} {N : NS} (hX : NX h 2 N) (ok : N_ok N) {b : Nat} (eb : bnd (N_n N) (N_w N) (N_t N) = b) {K cu : Nat} {kc lim0 : Nat} {go : Int32} {gi gm : Nat → Int32} {cl : Nat → Prop} {M0 : Nat → Nat} {P0 : Nat → List Nat} (hc : cl cu) (hkc0 : kyf N b M0 P0 cu = kc) (now : ow (xr cu) b = false) (qx : QX N b h hh K cu (fun j => j < 292) kc lim0 go gi gm cl M0 P0) : ab_C Y_Planner_goByPosts [.ref 35, .int (nI cu)] m hh (fun r9 m2 h2 => r9 = none ∧ m2 = m ∧ QX N b h h2 K cu (fun _ => True) kc lim0 go gi gm cl M0 P0) := by
  have hn6 := ok.1
  have hns : N_ns N ≤ 4 := ok.2.2.2.2.2.2.2.2.1
  have hw6 := ok.w6
  have hw31 : N_w N < 2 ^ 31 := by omega
  refine ab_C.of (L := [some (.ref 35), some (.int (nI cu)), none, none, none]) rfl rfl (Nat.le_of_ble_eq_true rfl) (fun l => ?_)
  have loop : ∀ kq q (hh : ab_H), q + kq = N_n N → QX N b h hh K cu (fun j => j < 292 + q) kc lim0 go gi gm cl M0 P0 → ab_W Y_Planner_goByPosts none l (fun r9 m2 h2 => r9 = none ∧ m2 = m ∧ QX N b h h2 K cu (fun _ => True) kc lim0 go gi gm cl M0 P0) 2 [some (.ref 35), some (.int (nI cu)), some (.int (nI (q))), none, none] [] m (hh) (0, 0) := by
    intro kq
    induction kq with
    | zero =>
      intro q hh hq9 qx
      have hq9n : N_n N = q := by omega
      subst hq9n
      obtain ⟨lim, sn, M, P, F, J, qs, l1, l2, hcl⟩ := id qx
      obtain ⟨kn, mi, me, gs, gg, gr, gf, gb, sz, gk, gt, gp, pl, pa, hp, iv⟩ := id qs
      obtain ⟨o35, o36, o37, o38, o39, o40, o41, o42, o43, o44, o45, o46, ofr⟩ := id pl
      have nX : NX hh 2 N := hX.fr (fun k _ _ => ofr k (by omega))
      have n0 := nX.1
      have hK := iv.K_
      have cs1 := (iv.2.1 cu hc).1
      obtain ⟨s1, s2, s3, s4, s5, s6, s7⟩ := iv.1 cu cs1
      have hlb := iv.lb_ cs1
      have hlimB := iv.lim_
      have pc := (pa cu s1).2 cs1
      have pc1 : gg cu = nI (1024 * M cu + (P cu).length) := pc.1
      have hkc : kyf N b M P cu = kc := by
        rw [← hkc0]
        show 1024 * M cu + (P cu).length + _ = 1024 * M0 cu + (P0 cu).length + _
        rw [(hcl cu hc).1, (hcl cu hc).2]
      refine aw_iload_n d_Planner_goByPosts_2 rfl ?_
      refine aw_aload_n d_Planner_goByPosts_3 rfl ?_
      refine aw_get (k := 4) d_Planner_goByPosts_4 cl_Planner k_Planner_40 (by decide) o35 rfl ?_
      refine aw_get (k := 0) d_Planner_goByPosts_7 cl_Night k_Planner_138 (by decide) n0 rfl ?_
      refine aw_icmp_ge (tgt := 125) d_Planner_goByPosts_10 (by decide) (fun c10 => ?_) (fun c10 => ?_)
      · refine aw_return d_Planner_goByPosts_125 rfl ?_
        exact ⟨rfl, rfl, qx.dn_ (fun j hj hs h => by
          by_cases e : j < 292
          · show j < 292 + N_n N
            omega
          · have ee : j = 292 + (j - 292) := by omega
            rw [ee] at hs
            have := ((post_e (N := N) (xr cu) (show j - 292 < 6 by omega)).1.mp hs).1.1
            show j < 292 + N_n N
            omega)⟩
      · exact absurd (Int32.le_refl _) c10
    | succ kq ih =>
      intro q hh hq9 qx
      obtain ⟨lim, sn, M, P, F, J, qs, l1, l2, hcl⟩ := id qx
      obtain ⟨kn, mi, me, gs, gg, gr, gf, gb, sz, gk, gt, gp, pl, pa, hp, iv⟩ := id qs
      obtain ⟨o35, o36, o37, o38, o39, o40, o41, o42, o43, o44, o45, o46, ofr⟩ := id pl
      have nX : NX hh 2 N := hX.fr (fun k _ _ => ofr k (by omega))
      have n0 := nX.1
      have hK := iv.K_
      have cs1 := (iv.2.1 cu hc).1
      obtain ⟨s1, s2, s3, s4, s5, s6, s7⟩ := iv.1 cu cs1
      have hlb := iv.lb_ cs1
      have hlimB := iv.lim_
      have pc := (pa cu s1).2 cs1
      have pc1 : gg cu = nI (1024 * M cu + (P cu).length) := pc.1
      have hkc : kyf N b M P cu = kc := by
        rw [← hkc0]
        show 1024 * M cu + (P cu).length + _ = 1024 * M0 cu + (P0 cu).length + _
        rw [(hcl cu hc).1, (hcl cu hc).2]
      have hq6 : q < 6 := by omega
      have pe := post_e (N := N) (xr cu) hq6
      have rg6 := (rg_t s2.1 hq6).2.2.1
      have hffo := ffo_lt ok s2.1 (rg (xr cu) q) hn6
      have hpop : pop (rg (xr cu) q) ≤ 6 := by unfold pop; omega
      have hra : (N_ra N * ffo N (xr cu) (rg (xr cu) q) (N_n N)) ≤ 9 * 240 := Nat.mul_le_mul ok.2.2.2.2.2.2.2.2.2.2.2.1 (by omega)
      have hrw : (rg (xr cu) q) &&& N_w N < 64 := and_63 rg6
      refine aw_iload_n d_Planner_goByPosts_2 rfl ?_
      refine aw_aload_n d_Planner_goByPosts_3 rfl ?_
      refine aw_get (k := 4) d_Planner_goByPosts_4 cl_Planner k_Planner_40 (by decide) o35 rfl ?_
      refine aw_get (k := 0) d_Planner_goByPosts_7 cl_Night k_Planner_138 (by decide) n0 rfl ?_
      refine aw_icmp_ge (tgt := 125) d_Planner_goByPosts_10 (by decide) (fun c10 => ?_) (fun c10 => ?_)
      · exact absurd c10 (nI_ge (by omega) (by omega))
      · refine aw_aload_n d_Planner_goByPosts_13 rfl ?_
        refine aw_get (k := 9) d_Planner_goByPosts_14 cl_Planner k_Planner_18 (by decide) o35 rfl ?_
        refine aw_iload_n d_Planner_goByPosts_17 rfl ?_
        refine aw_ialoadN d_Planner_goByPosts_18 o38 s1 (by decide) ?_
        rw [pc.2.1]
        refine aw_iload_n d_Planner_goByPosts_19 rfl ?_
        refine aw_s0i d_Planner_goByPosts_20 k_Planner_154 ok_Rows_ring rfl ⟨rfl, rfl⟩ (c_ring s2.1 hq6) rfl rfl (Nat.le_of_ble_eq_true rfl) ?_
        refine aw_istore_n (L' := [some (.ref 35), some (.int (nI cu)), some (.int (nI (q))), some (.int (nI (rg (xr cu) q))), none]) d_Planner_goByPosts_23 ⟨by decide, rfl⟩ rfl ?_
        refine aw_iload_n d_Planner_goByPosts_24 rfl ?_
        refine aw_iload_n d_Planner_goByPosts_25 rfl ?_
        refine aw_s0i d_Planner_goByPosts_26 k_Planner_157 ok_Rows_isLeast rfl ⟨rfl, rfl⟩ (c_isLeast rg6 hq6) rfl rfl (Nat.le_of_ble_eq_true rfl) ?_
        refine aw_if_eq (tgt := 119) d_Planner_goByPosts_29 (by decide) (fun c29 => ?_) (fun c29 => ?_)
        · refine aw_iinc (v := nI ((q) + 1)) (L' := [some (.ref 35), some (.int (nI cu)), some (.int (nI ((q) + 1))), some (.int (nI (rg (xr cu) q))), none]) d_Planner_goByPosts_119 rfl (nI_1 _) ⟨by decide, rfl⟩ rfl ?_
          refine aw_goto (tgt := 2) d_Planner_goByPosts_122 (by decide) ?_
          have step : ∀ j, j < 292 + (q + 1) → j < 292 + q ∨ j = 292 + q := fun j h => by omega
          first
            | exact aw_drop 3 (aw_drop 4 (ih (q + 1) _ (by omega) ((QX.dn_ (dn2 := fun j => j < 292 + (q + 1)) ⟨lim2, sn2, M2, P2, F2, J2, qs2, Nat.le_trans l3 l1, l4.elim (fun z => l2.elim (fun y => Or.inl (z.trans y)) (fun y => Or.inr (by omega))) Or.inr, fun z hz => ⟨(hcl2 z hz).1.trans (hcl z hz).1, (hcl2 z hz).2.trans (hcl z hz).2⟩⟩ (fun j hj hs h => step j h)))))
            | exact aw_drop 3 (aw_drop 4 (ih (q + 1) hh (by omega) ⟨lim, sn, M, P, F, J, ⟨kn, mi, me, gs, gg, gr, gf, gb, sz, gk, gt, gp, pl, pa, hp, iv.dn_ (fun j hj hs h => (step j h).imp id (fun e => Or.inl (by
                 have hq : lim < ((1024 * M cu + (P cu).length) + 1024 * (N_ra N * ffo N (xr cu) (rg (xr cu) q) (N_n N)) + 1) := (nI_ltI (by omega) (by omega)).mp c95
                 rw [e]
                 show lim < (1024 * M cu + (P cu).length) + 1024 * sco N (xr cu) (292 + q) + 1
                 rw [pe2]
                 exact hq)))⟩, l1, l2, hcl⟩))
            | exact aw_drop 3 (aw_drop 4 (ih (q + 1) hh (by omega) ⟨lim, sn, M, P, F, J, ⟨kn, mi, me, gs, gg, gr, gf, gb, sz, gk, gt, gp, pl, pa, hp, iv.dn_ (fun j hj hs h => (step j h).imp id (fun e => by
                 rw [e] at hs
                 have h9 := pe.1.mp hs
                 first
                   | exact absurd (decide_eq_true h9.1.2.1) (by rw [ab_bl_0.mp c29]; decide)
                   | exact absurd h9.1.2.2 (Nat.not_lt.mpr ((nI_leI (by omega) (by decide)).mp c37))
                   | exact absurd (show nI ((rg (xr cu) q) &&& N_w N) = 0 by rw [h9.2]; rfl) c49))⟩, l1, l2, hcl⟩))
        · refine aw_iload_n d_Planner_goByPosts_32 rfl ?_
          refine aw_s0i d_Planner_goByPosts_33 k_Planner_114 ok_JI_bitCount rfl ⟨rfl, rfl⟩ (c_bitCount _ rg6) rfl rfl (Nat.le_of_ble_eq_true rfl) ?_
          refine aw_iconst (v := nI 1) d_Planner_goByPosts_36 (by decide) ?_
          refine aw_icmp_le (tgt := 119) d_Planner_goByPosts_37 (by decide) (fun c37 => ?_) (fun c37 => ?_)
          · refine aw_iinc (v := nI ((q) + 1)) (L' := [some (.ref 35), some (.int (nI cu)), some (.int (nI ((q) + 1))), some (.int (nI (rg (xr cu) q))), none]) d_Planner_goByPosts_119 rfl (nI_1 _) ⟨by decide, rfl⟩ rfl ?_
            refine aw_goto (tgt := 2) d_Planner_goByPosts_122 (by decide) ?_
            have step : ∀ j, j < 292 + (q + 1) → j < 292 + q ∨ j = 292 + q := fun j h => by omega
            first
              | exact aw_drop 3 (aw_drop 4 (ih (q + 1) _ (by omega) ((QX.dn_ (dn2 := fun j => j < 292 + (q + 1)) ⟨lim2, sn2, M2, P2, F2, J2, qs2, Nat.le_trans l3 l1, l4.elim (fun z => l2.elim (fun y => Or.inl (z.trans y)) (fun y => Or.inr (by omega))) Or.inr, fun z hz => ⟨(hcl2 z hz).1.trans (hcl z hz).1, (hcl2 z hz).2.trans (hcl z hz).2⟩⟩ (fun j hj hs h => step j h)))))
              | exact aw_drop 3 (aw_drop 4 (ih (q + 1) hh (by omega) ⟨lim, sn, M, P, F, J, ⟨kn, mi, me, gs, gg, gr, gf, gb, sz, gk, gt, gp, pl, pa, hp, iv.dn_ (fun j hj hs h => (step j h).imp id (fun e => Or.inl (by
                   have hq : lim < ((1024 * M cu + (P cu).length) + 1024 * (N_ra N * ffo N (xr cu) (rg (xr cu) q) (N_n N)) + 1) := (nI_ltI (by omega) (by omega)).mp c95
                   rw [e]
                   show lim < (1024 * M cu + (P cu).length) + 1024 * sco N (xr cu) (292 + q) + 1
                   rw [pe2]
                   exact hq)))⟩, l1, l2, hcl⟩))
              | exact aw_drop 3 (aw_drop 4 (ih (q + 1) hh (by omega) ⟨lim, sn, M, P, F, J, ⟨kn, mi, me, gs, gg, gr, gf, gb, sz, gk, gt, gp, pl, pa, hp, iv.dn_ (fun j hj hs h => (step j h).imp id (fun e => by
                   rw [e] at hs
                   have h9 := pe.1.mp hs
                   first
                     | exact absurd (decide_eq_true h9.1.2.1) (by rw [ab_bl_0.mp c29]; decide)
                     | exact absurd h9.1.2.2 (Nat.not_lt.mpr ((nI_leI (by omega) (by decide)).mp c37))
                     | exact absurd (show nI ((rg (xr cu) q) &&& N_w N) = 0 by rw [h9.2]; rfl) c49))⟩, l1, l2, hcl⟩))
          · refine aw_iload_n d_Planner_goByPosts_40 rfl ?_
            refine aw_aload_n d_Planner_goByPosts_41 rfl ?_
            refine aw_get (k := 4) d_Planner_goByPosts_42 cl_Planner k_Planner_40 (by decide) o35 rfl ?_
            refine aw_get (k := 7) d_Planner_goByPosts_45 cl_Night k_Planner_123 (by decide) n0 rfl ?_
            refine aw_iand d_Planner_goByPosts_48 ?_
            rw [fa_and]
            refine aw_if_ne (tgt := 119) d_Planner_goByPosts_49 (by decide) (fun c49 => ?_) (fun c49 => ?_)
            · refine aw_iinc (v := nI ((q) + 1)) (L' := [some (.ref 35), some (.int (nI cu)), some (.int (nI ((q) + 1))), some (.int (nI (rg (xr cu) q))), none]) d_Planner_goByPosts_119 rfl (nI_1 _) ⟨by decide, rfl⟩ rfl ?_
              refine aw_goto (tgt := 2) d_Planner_goByPosts_122 (by decide) ?_
              have step : ∀ j, j < 292 + (q + 1) → j < 292 + q ∨ j = 292 + q := fun j h => by omega
              first
                | exact aw_drop 3 (aw_drop 4 (ih (q + 1) _ (by omega) ((QX.dn_ (dn2 := fun j => j < 292 + (q + 1)) ⟨lim2, sn2, M2, P2, F2, J2, qs2, Nat.le_trans l3 l1, l4.elim (fun z => l2.elim (fun y => Or.inl (z.trans y)) (fun y => Or.inr (by omega))) Or.inr, fun z hz => ⟨(hcl2 z hz).1.trans (hcl z hz).1, (hcl2 z hz).2.trans (hcl z hz).2⟩⟩ (fun j hj hs h => step j h)))))
                | exact aw_drop 3 (aw_drop 4 (ih (q + 1) hh (by omega) ⟨lim, sn, M, P, F, J, ⟨kn, mi, me, gs, gg, gr, gf, gb, sz, gk, gt, gp, pl, pa, hp, iv.dn_ (fun j hj hs h => (step j h).imp id (fun e => Or.inl (by
                     have hq : lim < ((1024 * M cu + (P cu).length) + 1024 * (N_ra N * ffo N (xr cu) (rg (xr cu) q) (N_n N)) + 1) := (nI_ltI (by omega) (by omega)).mp c95
                     rw [e]
                     show lim < (1024 * M cu + (P cu).length) + 1024 * sco N (xr cu) (292 + q) + 1
                     rw [pe2]
                     exact hq)))⟩, l1, l2, hcl⟩))
                | exact aw_drop 3 (aw_drop 4 (ih (q + 1) hh (by omega) ⟨lim, sn, M, P, F, J, ⟨kn, mi, me, gs, gg, gr, gf, gb, sz, gk, gt, gp, pl, pa, hp, iv.dn_ (fun j hj hs h => (step j h).imp id (fun e => by
                     rw [e] at hs
                     have h9 := pe.1.mp hs
                     first
                       | exact absurd (decide_eq_true h9.1.2.1) (by rw [ab_bl_0.mp c29]; decide)
                       | exact absurd h9.1.2.2 (Nat.not_lt.mpr ((nI_leI (by omega) (by decide)).mp c37))
                       | exact absurd (show nI ((rg (xr cu) q) &&& N_w N) = 0 by rw [h9.2]; rfl) c49))⟩, l1, l2, hcl⟩))
            · have hcond : q < N_n N ∧ tz (rg (xr cu) q) = q ∧ 1 < pop (rg (xr cu) q) := ⟨by omega, of_decide_eq_true (ab_bl_1.mp c29), Nat.not_le.mp (fun z => c37 (nI_le z (by decide)))⟩
              obtain ⟨pe1, pe2⟩ := pe.2 hcond
              have hs9 : sok N (xr cu) (292 + q) := pe.1.mpr ⟨hcond, (nI_eq (b := 0) (by omega) (by decide)).mp c49⟩
              refine aw_aload_n d_Planner_goByPosts_52 rfl ?_
              refine aw_get (k := 8) d_Planner_goByPosts_53 cl_Planner k_Planner_15 (by decide) o35 rfl ?_
              refine aw_iload_n d_Planner_goByPosts_56 rfl ?_
              refine aw_ialoadN d_Planner_goByPosts_57 o37 s1 (by decide) ?_
              rw [pc1]
              refine aw_sipush (v := nI 1024) d_Planner_goByPosts_58 (by decide) ?_
              refine aw_aload_n d_Planner_goByPosts_61 rfl ?_
              refine aw_get (k := 4) d_Planner_goByPosts_62 cl_Planner k_Planner_40 (by decide) o35 rfl ?_
              refine aw_get (k := 11) d_Planner_goByPosts_65 cl_Night k_Planner_160 (by decide) n0 rfl ?_
              refine aw_imul d_Planner_goByPosts_68 ?_
              rw [pk_mul]
              refine aw_aload_n d_Planner_goByPosts_69 rfl ?_
              refine aw_get (k := 4) d_Planner_goByPosts_70 cl_Planner k_Planner_40 (by decide) o35 rfl ?_
              refine aw_aload_n d_Planner_goByPosts_73 rfl ?_
              refine aw_get (k := 9) d_Planner_goByPosts_74 cl_Planner k_Planner_18 (by decide) o35 rfl ?_
              refine aw_iload_n d_Planner_goByPosts_77 rfl ?_
              refine aw_ialoadN d_Planner_goByPosts_78 o38 s1 (by decide) ?_
              rw [pc.2.1]
              refine aw_iload_n d_Planner_goByPosts_79 rfl ?_
              refine aw_v0i (a := 2) d_Planner_goByPosts_80 k_Planner_163 ok_Night_farFromOwners rfl ⟨rfl, rfl⟩ cl_Night n0 (c_ffo nX ok s2.1 (s := (rg (xr cu) q)) (by omega)) rfl rfl (Nat.le_of_ble_eq_true rfl) ?_
              refine aw_imul d_Planner_goByPosts_83 ?_
              rw [pk_mul, Nat.mul_assoc]
              refine aw_iadd d_Planner_goByPosts_84 ?_
              rw [nI_add]
              refine aw_iconst (v := nI 1) d_Planner_goByPosts_85 (by decide) ?_
              refine aw_iadd d_Planner_goByPosts_86 ?_
              rw [nI_add]
              refine aw_istore (L' := [some (.ref 35), some (.int (nI cu)), some (.int (nI (q))), some (.int (nI (rg (xr cu) q))), some (.int (nI ((1024 * M cu + (P cu).length) + 1024 * (N_ra N * ffo N (xr cu) (rg (xr cu) q) (N_n N)) + 1)))]) d_Planner_goByPosts_87 ⟨by decide, rfl⟩ rfl ?_
              refine aw_iload d_Planner_goByPosts_89 rfl ?_
              refine aw_aload_n d_Planner_goByPosts_91 rfl ?_
              refine aw_get (k := 7) d_Planner_goByPosts_92 cl_Planner k_Planner_57 (by decide) o35 rfl ?_
              refine aw_icmp_gt (tgt := 119) d_Planner_goByPosts_95 (by decide) (fun c95 => ?_) (fun c95 => ?_)
              · refine aw_iinc (v := nI ((q) + 1)) (L' := [some (.ref 35), some (.int (nI cu)), some (.int (nI ((q) + 1))), some (.int (nI (rg (xr cu) q))), some (.int (nI ((1024 * M cu + (P cu).length) + 1024 * (N_ra N * ffo N (xr cu) (rg (xr cu) q) (N_n N)) + 1)))]) d_Planner_goByPosts_119 rfl (nI_1 _) ⟨by decide, rfl⟩ rfl ?_
                refine aw_goto (tgt := 2) d_Planner_goByPosts_122 (by decide) ?_
                have step : ∀ j, j < 292 + (q + 1) → j < 292 + q ∨ j = 292 + q := fun j h => by omega
                first
                  | exact aw_drop 3 (aw_drop 4 (ih (q + 1) _ (by omega) ((QX.dn_ (dn2 := fun j => j < 292 + (q + 1)) ⟨lim2, sn2, M2, P2, F2, J2, qs2, Nat.le_trans l3 l1, l4.elim (fun z => l2.elim (fun y => Or.inl (z.trans y)) (fun y => Or.inr (by omega))) Or.inr, fun z hz => ⟨(hcl2 z hz).1.trans (hcl z hz).1, (hcl2 z hz).2.trans (hcl z hz).2⟩⟩ (fun j hj hs h => step j h)))))
                  | exact aw_drop 3 (aw_drop 4 (ih (q + 1) hh (by omega) ⟨lim, sn, M, P, F, J, ⟨kn, mi, me, gs, gg, gr, gf, gb, sz, gk, gt, gp, pl, pa, hp, iv.dn_ (fun j hj hs h => (step j h).imp id (fun e => Or.inl (by
                       have hq : lim < ((1024 * M cu + (P cu).length) + 1024 * (N_ra N * ffo N (xr cu) (rg (xr cu) q) (N_n N)) + 1) := (nI_ltI (by omega) (by omega)).mp c95
                       rw [e]
                       show lim < (1024 * M cu + (P cu).length) + 1024 * sco N (xr cu) (292 + q) + 1
                       rw [pe2]
                       exact hq)))⟩, l1, l2, hcl⟩))
                  | exact aw_drop 3 (aw_drop 4 (ih (q + 1) hh (by omega) ⟨lim, sn, M, P, F, J, ⟨kn, mi, me, gs, gg, gr, gf, gb, sz, gk, gt, gp, pl, pa, hp, iv.dn_ (fun j hj hs h => (step j h).imp id (fun e => by
                       rw [e] at hs
                       have h9 := pe.1.mp hs
                       first
                         | exact absurd (decide_eq_true h9.1.2.1) (by rw [ab_bl_0.mp c29]; decide)
                         | exact absurd h9.1.2.2 (Nat.not_lt.mpr ((nI_leI (by omega) (by decide)).mp c37))
                         | exact absurd (show nI ((rg (xr cu) q) &&& N_w N) = 0 by rw [h9.2]; rfl) c49))⟩, l1, l2, hcl⟩))
              · refine aw_aload_n d_Planner_goByPosts_98 rfl ?_
                refine aw_iload_n d_Planner_goByPosts_99 rfl ?_
                refine aw_iload_n d_Planner_goByPosts_100 rfl ?_
                refine aw_s0i d_Planner_goByPosts_101 k_Planner_166 ok_Meetings_post rfl ⟨rfl, rfl⟩ c_mpost rfl rfl (Nat.le_of_ble_eq_true rfl) ?_
                refine aw_aload_n d_Planner_goByPosts_104 rfl ?_
                refine aw_get (k := 9) d_Planner_goByPosts_105 cl_Planner k_Planner_18 (by decide) o35 rfl ?_
                refine aw_iload_n d_Planner_goByPosts_108 rfl ?_
                refine aw_ialoadN d_Planner_goByPosts_109 o38 s1 (by decide) ?_
                rw [pc.2.1]
                refine aw_iload_n d_Planner_goByPosts_110 rfl ?_
                refine aw_s0i d_Planner_goByPosts_111 k_Planner_151 ok_Rows_settled rfl ⟨rfl, rfl⟩ (c_settled s2.1 rg6) rfl rfl (Nat.le_of_ble_eq_true rfl) ?_
                refine aw_iload d_Planner_goByPosts_114 rfl ?_
                have key := c_reach (m := m) hX ok eb qs hc hkc (show 292 + q < 298 by omega) hs9 (lab := ((1024 * M cu + (P cu).length) + 1024 * (N_ra N * ffo N (xr cu) (rg (xr cu) q) (N_n N)) + 1)) (by
                  show (1024 * M cu + (P cu).length) + 1024 * sco N (xr cu) (292 + q) + 1 = _
                  rw [pe2])
                rw [post_m, pe1] at key
                refine aw_v0 (a := 35) d_Planner_goByPosts_116 k_Planner_75 ok_Planner_reach rfl ⟨rfl, rfl⟩ cl_Planner o35 key rfl rfl (Nat.le_of_ble_eq_true rfl) (fun r9 m2 h2 z => ?_)
                obtain ⟨rfl, em, lim2, sn2, M2, P2, F2, J2, qs2, l3, l4, hcl2⟩ := z
                rw [em]
                show ab_W _ _ _ _ 119 _ [] _ _ _
                refine aw_iinc (v := nI ((q) + 1)) (L' := [some (.ref 35), some (.int (nI cu)), some (.int (nI ((q) + 1))), some (.int (nI (rg (xr cu) q))), some (.int (nI ((1024 * M cu + (P cu).length) + 1024 * (N_ra N * ffo N (xr cu) (rg (xr cu) q) (N_n N)) + 1)))]) d_Planner_goByPosts_119 rfl (nI_1 _) ⟨by decide, rfl⟩ rfl ?_
                refine aw_goto (tgt := 2) d_Planner_goByPosts_122 (by decide) ?_
                have step : ∀ j, j < 292 + (q + 1) → j < 292 + q ∨ j = 292 + q := fun j h => by omega
                first
                  | exact aw_drop 3 (aw_drop 4 (ih (q + 1) _ (by omega) ((QX.dn_ (dn2 := fun j => j < 292 + (q + 1)) ⟨lim2, sn2, M2, P2, F2, J2, qs2, Nat.le_trans l3 l1, l4.elim (fun z => l2.elim (fun y => Or.inl (z.trans y)) (fun y => Or.inr (by omega))) Or.inr, fun z hz => ⟨(hcl2 z hz).1.trans (hcl z hz).1, (hcl2 z hz).2.trans (hcl z hz).2⟩⟩ (fun j hj hs h => step j h)))))
                  | exact aw_drop 3 (aw_drop 4 (ih (q + 1) hh (by omega) ⟨lim, sn, M, P, F, J, ⟨kn, mi, me, gs, gg, gr, gf, gb, sz, gk, gt, gp, pl, pa, hp, iv.dn_ (fun j hj hs h => (step j h).imp id (fun e => Or.inl (by
                       have hq : lim < ((1024 * M cu + (P cu).length) + 1024 * (N_ra N * ffo N (xr cu) (rg (xr cu) q) (N_n N)) + 1) := (nI_ltI (by omega) (by omega)).mp c95
                       rw [e]
                       show lim < (1024 * M cu + (P cu).length) + 1024 * sco N (xr cu) (292 + q) + 1
                       rw [pe2]
                       exact hq)))⟩, l1, l2, hcl⟩))
                  | exact aw_drop 3 (aw_drop 4 (ih (q + 1) hh (by omega) ⟨lim, sn, M, P, F, J, ⟨kn, mi, me, gs, gg, gr, gf, gb, sz, gk, gt, gp, pl, pa, hp, iv.dn_ (fun j hj hs h => (step j h).imp id (fun e => by
                       rw [e] at hs
                       have h9 := pe.1.mp hs
                       first
                         | exact absurd (decide_eq_true h9.1.2.1) (by rw [ab_bl_0.mp c29]; decide)
                         | exact absurd h9.1.2.2 (Nat.not_lt.mpr ((nI_leI (by omega) (by decide)).mp c37))
                         | exact absurd (show nI ((rg (xr cu) q) &&& N_w N) = 0 by rw [h9.2]; rfl) c49))⟩, l1, l2, hcl⟩))
  refine aw_iconst (v := nI 0) d_Planner_goByPosts_0 (by decide) ?_
  refine aw_istore_n (L' := [some (.ref 35), some (.int (nI cu)), some (.int (nI 0)), none, none]) d_Planner_goByPosts_1 ⟨by decide, rfl⟩ rfl ?_
  exact loop (N_n N) 0 hh (by omega) (qx.dn_ (fun j hj hs h => by omega))
