theorem c_chooseInns {m : Nat} {h hh : ab_H} {N : NS} (hX : NX h 2 N) (ok : N_ok N) {kn : Bool} {mi : Int32} {me : Int32} {b : Nat} {go : Int32} {lim : Nat} {gs : Nat → Int32} {gg : Nat → Int32} {gr : Nat → Int32} {gf : Nat → Int32} {gb : Nat → Int32} {sz : Nat} {gk : Nat → Int32} {gt : Nat → Int32} {gp : Nat → Int32} {gi : Nat → Int32} {gm : Nat → Int32} (pl : PL h hh kn mi me b go lim gs gg gr gf gb sz gk gt gp gi gm) : ab_C Y_Planner_chooseInns [.ref 35] m hh (fun r9 m2 h2 => r9 = none ∧ m2 = m ∧ ∃ gi2 gm2 : Nat → Int32, PL h h2 kn mi me b go lim gs gg gr gf gb sz gk gt gp gi2 gm2 ∧ ∀ t, t < 64 → INs N t (gi2 t) (gm2 t)) := by
  obtain ⟨o35, o36, o37, o38, o39, o40, o41, o42, o43, o44, o45, o46, ofr⟩ := id pl
  have nX : NX hh 2 N := hX.fr (fun k _ _ => ofr k (by omega))
  have n0 := nX.1
  have hn6 := ok.1
  have hns : N_ns N ≤ 4 := ok.2.2.2.2.2.2.2.2.1
  have hse : N_se N ≤ 4 := ok.2.2.2.2.2.2.2.2.2.2.2.2.2.1
  refine ab_C.of (L := [some (.ref 35), none, none, none, none]) rfl rfl (Nat.le_of_ble_eq_true rfl) (fun l => ?_)
  have loops : ∀ f s (hh : ab_H) (gi gm : Nat → Int32), s + f = 64 → 3 ≤ s → PL h hh kn mi me b go lim gs gg gr gf gb sz gk gt gp gi gm → (∀ t, t < 64 → (t < s → INs N t (gi t) (gm t)) ∧ (s ≤ t → gm t = nI 0)) → ab_W Y_Planner_chooseInns none l (fun r9 m2 h2 => r9 = none ∧ m2 = m ∧ ∃ gi2 gm2 : Nat → Int32, PL h h2 kn mi me b go lim gs gg gr gf gb sz gk gt gp gi2 gm2 ∧ ∀ t, t < 64 → INs N t (gi2 t) (gm2 t)) 10 [some (.ref 35), some (.int (nI s)), none, none, none] [] m hh (0, 0) := by
    intro f
    induction f with
    | zero =>
      intro s hh gi gm hs h3 pl inv
      obtain ⟨o35, o36, o37, o38, o39, o40, o41, o42, o43, o44, o45, o46, ofr⟩ := id pl
      have nX : NX hh 2 N := hX.fr (fun k _ _ => ofr k (by omega))
      have n0 := nX.1
      have h2n := b_63 _ hn6
      refine aw_iload_n d_Planner_chooseInns_10 rfl ?_
      refine aw_aload_n d_Planner_chooseInns_11 rfl ?_
      refine aw_get (k := 4) d_Planner_chooseInns_12 cl_Planner k_Planner_40 (by decide) o35 rfl ?_
      refine aw_v0i (a := 2) d_Planner_chooseInns_15 k_Planner_111 ok_Night_all rfl ⟨rfl, rfl⟩ cl_Night n0 (c_all2 n0 hn6) rfl rfl (Nat.le_of_ble_eq_true rfl) ?_
      refine aw_icmp_gt (tgt := 134) d_Planner_chooseInns_18 (by decide) (fun c18 => ?_) (fun c18 => ?_)
      · refine aw_return d_Planner_chooseInns_134 rfl ?_
        have hq : 2 ^ N_n N - 1 < s := (nI_ltI (by omega) (by omega)).mp c18
        refine ⟨rfl, rfl, gi, gm, pl, fun t ht => ?_⟩
        by_cases e : t < s
        · exact (inv t ht).1 e
        · exact ⟨fun _ => (inv t ht).2 (by omega), fun z => by have := z.1.1; omega⟩
      · exact absurd (nI_lt (show 2 ^ N_n N - 1 < s by omega) (by omega)) c18
    | succ f ihs =>
      intro s hh gi gm hs h3 pl inv
      obtain ⟨o35, o36, o37, o38, o39, o40, o41, o42, o43, o44, o45, o46, ofr⟩ := id pl
      have nX : NX hh 2 N := hX.fr (fun k _ _ => ofr k (by omega))
      have n0 := nX.1
      have h2n := b_63 _ hn6
      have hpop : pop s ≤ 6 := by unfold pop; omega
      have gm0 : gm s = nI 0 := (inv s (by omega)).2 (Nat.le_refl _)
      have rest : ∀ t, t < 64 → t ≠ s → (t < s → INs N t (gi t) (gm t)) ∧ (s < t → gm t = nI 0) := fun t ht hn => ⟨(inv t ht).1, fun z => (inv t ht).2 (by omega)⟩
      have hsw : s &&& N_w N < 2 ^ 31 := by have := and_63 (a := s) (b := N_w N) (by omega); omega
      refine aw_iload_n d_Planner_chooseInns_10 rfl ?_
      refine aw_aload_n d_Planner_chooseInns_11 rfl ?_
      refine aw_get (k := 4) d_Planner_chooseInns_12 cl_Planner k_Planner_40 (by decide) o35 rfl ?_
      refine aw_v0i (a := 2) d_Planner_chooseInns_15 k_Planner_111 ok_Night_all rfl ⟨rfl, rfl⟩ cl_Night n0 (c_all2 n0 hn6) rfl rfl (Nat.le_of_ble_eq_true rfl) ?_
      refine aw_icmp_gt (tgt := 134) d_Planner_chooseInns_18 (by decide) (fun c18 => ?_) (fun c18 => ?_)
      · refine aw_return d_Planner_chooseInns_134 rfl ?_
        have hq : 2 ^ N_n N - 1 < s := (nI_ltI (by omega) (by omega)).mp c18
        refine ⟨rfl, rfl, gi, gm, pl, fun t ht => ?_⟩
        by_cases e : t < s
        · exact (inv t ht).1 e
        · exact ⟨fun _ => (inv t ht).2 (by omega), fun z => by have := z.1.1; omega⟩
      · have hsn : s ≤ 2 ^ N_n N - 1 := Nat.not_lt.mp (fun z => c18 (nI_lt z (by omega)))
        refine aw_iload_n d_Planner_chooseInns_21 rfl ?_
        refine aw_s0i d_Planner_chooseInns_22 k_Planner_114 ok_JI_bitCount rfl ⟨rfl, rfl⟩ (c_bitCount s (by omega)) rfl rfl (Nat.le_of_ble_eq_true rfl) ?_
        refine aw_istore_n (L' := [some (.ref 35), some (.int (nI s)), some (.int (nI (pop s))), none, none]) d_Planner_chooseInns_25 ⟨by decide, rfl⟩ rfl ?_
        refine aw_iload_n d_Planner_chooseInns_26 rfl ?_
        refine aw_iconst (v := nI 2) d_Planner_chooseInns_27 (by decide) ?_
        refine aw_icmp_lt (tgt := 128) d_Planner_chooseInns_28 (by decide) (fun c28 => ?_) (fun c28 => ?_)
        · refine aw_iinc (v := nI (s + 1)) (L' := [some (.ref 35), some (.int (nI (s + 1))), some (.int (nI (pop s))), none, none]) d_Planner_chooseInns_128 rfl (nI_1 _) ⟨by decide, rfl⟩ rfl ?_
          refine aw_goto (tgt := 10) d_Planner_chooseInns_131 (by decide) ?_
          have nv : ¬ vld N s := fun z => by
            obtain ⟨z1, z2, z3, z4⟩ := z
            first
              | exact absurd z2 (Nat.not_le.mpr ((nI_ltI (by omega) (by decide)).mp c28))
              | exact absurd z3 (Nat.not_le.mpr ((nI_ltI (by omega) (by omega)).mp c39))
              | exact c51 (by rw [z4]; rfl)
          refine aw_drop 2 (aw_drop 3 (aw_drop 4 (ihs (s + 1) hh gi gm (by omega) (by omega) pl (fun t ht => ?_))))
          by_cases e : t = s
          · refine ⟨fun _ => ?_, fun z => by omega⟩
            rw [e]
            exact ⟨fun _ => gm0, fun z => absurd z.1 nv⟩
          · obtain ⟨a1, a2⟩ := rest t ht e
            exact ⟨fun z => a1 (by omega), fun z => a2 (by omega)⟩
        · refine aw_iload_n d_Planner_chooseInns_31 rfl ?_
          refine aw_aload_n d_Planner_chooseInns_32 rfl ?_
          refine aw_get (k := 4) d_Planner_chooseInns_33 cl_Planner k_Planner_40 (by decide) o35 rfl ?_
          refine aw_get (k := 12) d_Planner_chooseInns_36 cl_Night k_Planner_120 (by decide) n0 rfl ?_
          refine aw_icmp_gt (tgt := 128) d_Planner_chooseInns_39 (by decide) (fun c39 => ?_) (fun c39 => ?_)
          · refine aw_iinc (v := nI (s + 1)) (L' := [some (.ref 35), some (.int (nI (s + 1))), some (.int (nI (pop s))), none, none]) d_Planner_chooseInns_128 rfl (nI_1 _) ⟨by decide, rfl⟩ rfl ?_
            refine aw_goto (tgt := 10) d_Planner_chooseInns_131 (by decide) ?_
            have nv : ¬ vld N s := fun z => by
              obtain ⟨z1, z2, z3, z4⟩ := z
              first
                | exact absurd z2 (Nat.not_le.mpr ((nI_ltI (by omega) (by decide)).mp c28))
                | exact absurd z3 (Nat.not_le.mpr ((nI_ltI (by omega) (by omega)).mp c39))
                | exact c51 (by rw [z4]; rfl)
            refine aw_drop 2 (aw_drop 3 (aw_drop 4 (ihs (s + 1) hh gi gm (by omega) (by omega) pl (fun t ht => ?_))))
            by_cases e : t = s
            · refine ⟨fun _ => ?_, fun z => by omega⟩
              rw [e]
              exact ⟨fun _ => gm0, fun z => absurd z.1 nv⟩
            · obtain ⟨a1, a2⟩ := rest t ht e
              exact ⟨fun z => a1 (by omega), fun z => a2 (by omega)⟩
          · refine aw_iload_n d_Planner_chooseInns_42 rfl ?_
            refine aw_aload_n d_Planner_chooseInns_43 rfl ?_
            refine aw_get (k := 4) d_Planner_chooseInns_44 cl_Planner k_Planner_40 (by decide) o35 rfl ?_
            refine aw_get (k := 7) d_Planner_chooseInns_47 cl_Night k_Planner_123 (by decide) n0 rfl ?_
            refine aw_iand d_Planner_chooseInns_50 ?_
            rw [fa_and]
            refine aw_if_eq (tgt := 57) d_Planner_chooseInns_51 (by decide) (fun c51 => ?_) (fun c51 => ?_)
            · refine aw_iconst (v := nI 0) d_Planner_chooseInns_57 (by decide) ?_
              refine aw_istore_n (L' := [some (.ref 35), some (.int (nI s)), some (.int (nI (pop s))), some (.int (nI 0)), none]) d_Planner_chooseInns_58 ⟨by decide, rfl⟩ rfl ?_
              have vd : vld N s := ⟨by omega, Nat.not_lt.mp (fun z => c28 (nI_lt z (by decide))), Nat.not_lt.mp (fun z => c39 (nI_lt z (by omega))), (nI_eq (b := 0) hsw (by decide)).mp c51⟩
              have loopi : ∀ ki i (hh : ab_H) (gi gm : Nat → Int32), i + ki = N_ns N → PL h hh kn mi me b go lim gs gg gr gf gb sz gk gt gp gi gm → (∀ t, t < 64 → t ≠ s → (t < s → INs N t (gi t) (gm t)) ∧ (s < t → gm t = nI 0)) → ((i = 0 ∧ gm s = nI 0) ∨ ∃ i0, i0 < i ∧ gm s = nI (10000 + 1000 * i0 + s) ∧ gi s = nI (2 * toI N i0 s (N_n N)) ∧ (∀ i2, i2 < i → toI N i0 s (N_n N) ≤ toI N i2 s (N_n N)) ∧ ∀ i2, i2 < i0 → toI N i0 s (N_n N) < toI N i2 s (N_n N)) → ab_W Y_Planner_chooseInns none l (fun r9 m2 h2 => r9 = none ∧ m2 = m ∧ ∃ gi2 gm2 : Nat → Int32, PL h h2 kn mi me b go lim gs gg gr gf gb sz gk gt gp gi2 gm2 ∧ ∀ t, t < 64 → INs N t (gi2 t) (gm2 t)) 59 [some (.ref 35), some (.int (nI s)), some (.int (nI (pop s))), some (.int (nI (i))), none] [] m (hh) (0, 0) := by
                intro ki
                induction ki with
                | zero =>
                  intro i hh gi gm hi9 pl rest cur
                  have hi9n : N_ns N = i := by omega
                  subst hi9n
                  obtain ⟨o35, o36, o37, o38, o39, o40, o41, o42, o43, o44, o45, o46, ofr⟩ := id pl
                  have nX : NX hh 2 N := hX.fr (fun k _ _ => ofr k (by omega))
                  have n0 := nX.1
                  refine aw_iload_n d_Planner_chooseInns_59 rfl ?_
                  refine aw_aload_n d_Planner_chooseInns_60 rfl ?_
                  refine aw_get (k := 4) d_Planner_chooseInns_61 cl_Planner k_Planner_40 (by decide) o35 rfl ?_
                  refine aw_get (k := 8) d_Planner_chooseInns_64 cl_Night k_Planner_126 (by decide) n0 rfl ?_
                  refine aw_icmp_ge (tgt := 128) d_Planner_chooseInns_67 (by decide) (fun c67 => ?_) (fun c67 => ?_)
                  · refine aw_iinc (v := nI (s + 1)) (L' := [some (.ref 35), some (.int (nI (s + 1))), some (.int (nI (pop s))), some (.int (nI (N_ns N))), none]) d_Planner_chooseInns_128 rfl (nI_1 _) ⟨by decide, rfl⟩ rfl ?_
                    refine aw_goto (tgt := 10) d_Planner_chooseInns_131 (by decide) ?_
                    refine aw_drop 2 (aw_drop 3 (aw_drop 4 (ihs (s + 1) hh gi gm (by omega) (by omega) pl (fun t ht => ?_))))
                    by_cases e : t = s
                    · refine ⟨fun _ => ?_, fun z => by omega⟩
                      rw [e]
                      rcases cur with z | ⟨i0, q⟩
                      · exact ⟨fun _ => z.2, fun y => by omega⟩
                      · exact ⟨fun y => absurd ⟨vd, by omega⟩ y, fun _ => ⟨i0, q⟩⟩
                    · obtain ⟨a1, a2⟩ := rest t ht e
                      exact ⟨fun z => a1 (by omega), fun z => a2 (by omega)⟩
                  · exact absurd (Int32.le_refl _) c67
                | succ ki ihi =>
                  intro i hh gi gm hi9 pl rest cur
                  obtain ⟨o35, o36, o37, o38, o39, o40, o41, o42, o43, o44, o45, o46, ofr⟩ := id pl
                  have nX : NX hh 2 N := hX.fr (fun k _ _ => ofr k (by omega))
                  have n0 := nX.1
                  refine aw_iload_n d_Planner_chooseInns_59 rfl ?_
                  refine aw_aload_n d_Planner_chooseInns_60 rfl ?_
                  refine aw_get (k := 4) d_Planner_chooseInns_61 cl_Planner k_Planner_40 (by decide) o35 rfl ?_
                  refine aw_get (k := 8) d_Planner_chooseInns_64 cl_Night k_Planner_126 (by decide) n0 rfl ?_
                  refine aw_icmp_ge (tgt := 128) d_Planner_chooseInns_67 (by decide) (fun c67 => ?_) (fun c67 => ?_)
                  · exact absurd c67 (nI_ge (by omega) (by omega))
                  · refine aw_iconst (v := nI 2) d_Planner_chooseInns_70 (by decide) ?_
                    refine aw_aload_n d_Planner_chooseInns_71 rfl ?_
                    refine aw_get (k := 4) d_Planner_chooseInns_72 cl_Planner k_Planner_40 (by decide) o35 rfl ?_
                    refine aw_iload_n d_Planner_chooseInns_75 rfl ?_
                    refine aw_iload_n d_Planner_chooseInns_76 rfl ?_
                    refine aw_v0i (a := 2) d_Planner_chooseInns_77 k_Planner_129 ok_Night_farToInn rfl ⟨rfl, rfl⟩ cl_Night n0 (c_toInn nX ok (show i < 4 by omega) (show s < 2 ^ 31 by omega)) rfl rfl (Nat.le_of_ble_eq_true rfl) ?_
                    refine aw_imul d_Planner_chooseInns_80 ?_
                    rw [pk_mul]
                    refine aw_istore (L' := [some (.ref 35), some (.int (nI s)), some (.int (nI (pop s))), some (.int (nI (i))), some (.int (nI (2 * toI N i s (N_n N))))]) d_Planner_chooseInns_81 ⟨by decide, rfl⟩ rfl ?_
                    refine aw_aload_n d_Planner_chooseInns_83 rfl ?_
                    refine aw_get (k := 14) d_Planner_chooseInns_84 cl_Planner k_Planner_37 (by decide) o35 rfl ?_
                    refine aw_iload_n d_Planner_chooseInns_87 rfl ?_
                    refine aw_ialoadN d_Planner_chooseInns_88 o46 (by omega) (by decide) ?_
                    refine aw_if_eq (tgt := 103) d_Planner_chooseInns_89 (by decide) (fun c89 => ?_) (fun c89 => ?_)
                    · refine aw_aload_n d_Planner_chooseInns_103 rfl ?_
                      refine aw_get (k := 13) d_Planner_chooseInns_104 cl_Planner k_Planner_34 (by decide) o35 rfl ?_
                      refine aw_iload_n d_Planner_chooseInns_107 rfl ?_
                      refine aw_iload d_Planner_chooseInns_108 rfl ?_
                      refine aw_iastoreN d_Planner_chooseInns_110 o45 (by omega) (by decide) ?_
                      refine aw_gen (fun z => PL h z kn mi me b go lim gs gg gr gf gb sz gk gt gp (upd gi s (nI (2 * toI N i s (N_n N)))) gm) (pl.s45 _) (fun hh pl => ?_)
                      obtain ⟨o35, o36, o37, o38, o39, o40, o41, o42, o43, o44, o45, o46, ofr⟩ := id pl
                      have nX : NX hh 2 N := hX.fr (fun k _ _ => ofr k (by omega))
                      have n0 := nX.1
                      refine aw_aload_n d_Planner_chooseInns_111 rfl ?_
                      refine aw_get (k := 14) d_Planner_chooseInns_112 cl_Planner k_Planner_37 (by decide) o35 rfl ?_
                      refine aw_iload_n d_Planner_chooseInns_115 rfl ?_
                      refine aw_iload_n d_Planner_chooseInns_116 rfl ?_
                      refine aw_iload_n d_Planner_chooseInns_117 rfl ?_
                      refine aw_s0i d_Planner_chooseInns_118 k_Planner_133 ok_Meetings_atInn rfl ⟨rfl, rfl⟩ c_matInn rfl rfl (Nat.le_of_ble_eq_true rfl) ?_
                      refine aw_iastoreN d_Planner_chooseInns_121 o46 (by omega) (by decide) ?_
                      refine aw_iinc (v := nI ((i) + 1)) (L' := [some (.ref 35), some (.int (nI s)), some (.int (nI (pop s))), some (.int (nI ((i) + 1))), some (.int (nI (2 * toI N i s (N_n N))))]) d_Planner_chooseInns_122 rfl (nI_1 _) ⟨by decide, rfl⟩ rfl ?_
                      refine aw_goto (tgt := 59) d_Planner_chooseInns_125 (by decide) ?_
                      have tb := toI_lt ok (show i < 4 by omega) s hn6
                      first
                        | (have z : 2 * toI N i s (N_n N) < 2147483648 := by omega
                           obtain ⟨i0, q1, q2, q3, q4, q5⟩ := cur.elim (fun z => absurd (by rw [z.2]; rfl) c89) id
                           have tb0 := toI_lt ok (show i0 < 4 by omega) s hn6
                           have hle : 2 * toI N i0 s (N_n N) ≤ 2 * toI N i s (N_n N) := (nI_leI (by omega) (by omega)).mp (by rw [← q3]; exact c100)
                           exact aw_drop 4 (ihi (i + 1) hh gi gm (by omega) pl rest (Or.inr ⟨i0, by omega, q2, q3, fun i2 h2 => by
                             by_cases e : i2 = i
                             · rw [e]; omega
                             · exact q4 i2 (by omega), q5⟩)))
                        | (refine aw_drop 4 (ihi (i + 1) _ _ _ (by omega) (pl.s46 _) (fun t ht hn => by rw [pk_un hn, pk_un hn]; exact rest t ht hn) (Or.inr ⟨i, by omega, by rw [pk_us], by rw [pk_us], fun i2 h2 => ?_, fun i2 h2 => ?_⟩))
                           · by_cases e : i2 = i
                             · rw [e]; exact Nat.le_refl _
                             · rcases cur with z | ⟨i0, q1, q2, q3, q4, q5⟩
                               · omega
                               · have tb0 := toI_lt ok (show i0 < 4 by omega) s hn6
                                 have hlt : 2 * toI N i s (N_n N) < 2 * toI N i0 s (N_n N) := by
                                   first
                                     | exact Nat.not_le.mp (fun z => c100 (by rw [q3]; exact nI_le z (by omega)))
                                     | exact absurd c89 (by rw [q2, fa_eq, nI_toInt (by omega), show ((0 : Int32)).toInt = 0 from by decide]; omega)
                                 have := q4 i2 (by omega)
                                 omega
                           · rcases cur with z | ⟨i0, q1, q2, q3, q4, q5⟩
                             · omega
                             · have tb0 := toI_lt ok (show i0 < 4 by omega) s hn6
                               have hlt : 2 * toI N i s (N_n N) < 2 * toI N i0 s (N_n N) := by
                                 first
                                   | exact Nat.not_le.mp (fun z => c100 (by rw [q3]; exact nI_le z (by omega)))
                                   | exact absurd c89 (by rw [q2, fa_eq, nI_toInt (by omega), show ((0 : Int32)).toInt = 0 from by decide]; omega)
                               have := q4 i2 (by omega)
                               omega)
                    · refine aw_iload d_Planner_chooseInns_92 rfl ?_
                      refine aw_aload_n d_Planner_chooseInns_94 rfl ?_
                      refine aw_get (k := 13) d_Planner_chooseInns_95 cl_Planner k_Planner_34 (by decide) o35 rfl ?_
                      refine aw_iload_n d_Planner_chooseInns_98 rfl ?_
                      refine aw_ialoadN d_Planner_chooseInns_99 o45 (by omega) (by decide) ?_
                      refine aw_icmp_ge (tgt := 122) d_Planner_chooseInns_100 (by decide) (fun c100 => ?_) (fun c100 => ?_)
                      · refine aw_iinc (v := nI ((i) + 1)) (L' := [some (.ref 35), some (.int (nI s)), some (.int (nI (pop s))), some (.int (nI ((i) + 1))), some (.int (nI (2 * toI N i s (N_n N))))]) d_Planner_chooseInns_122 rfl (nI_1 _) ⟨by decide, rfl⟩ rfl ?_
                        refine aw_goto (tgt := 59) d_Planner_chooseInns_125 (by decide) ?_
                        have tb := toI_lt ok (show i < 4 by omega) s hn6
                        first
                          | (have z : 2 * toI N i s (N_n N) < 2147483648 := by omega
                             obtain ⟨i0, q1, q2, q3, q4, q5⟩ := cur.elim (fun z => absurd (by rw [z.2]; rfl) c89) id
                             have tb0 := toI_lt ok (show i0 < 4 by omega) s hn6
                             have hle : 2 * toI N i0 s (N_n N) ≤ 2 * toI N i s (N_n N) := (nI_leI (by omega) (by omega)).mp (by rw [← q3]; exact c100)
                             exact aw_drop 4 (ihi (i + 1) hh gi gm (by omega) pl rest (Or.inr ⟨i0, by omega, q2, q3, fun i2 h2 => by
                               by_cases e : i2 = i
                               · rw [e]; omega
                               · exact q4 i2 (by omega), q5⟩)))
                          | (refine aw_drop 4 (ihi (i + 1) _ _ _ (by omega) (pl.s46 _) (fun t ht hn => by rw [pk_un hn, pk_un hn]; exact rest t ht hn) (Or.inr ⟨i, by omega, by rw [pk_us], by rw [pk_us], fun i2 h2 => ?_, fun i2 h2 => ?_⟩))
                             · by_cases e : i2 = i
                               · rw [e]; exact Nat.le_refl _
                               · rcases cur with z | ⟨i0, q1, q2, q3, q4, q5⟩
                                 · omega
                                 · have tb0 := toI_lt ok (show i0 < 4 by omega) s hn6
                                   have hlt : 2 * toI N i s (N_n N) < 2 * toI N i0 s (N_n N) := by
                                     first
                                       | exact Nat.not_le.mp (fun z => c100 (by rw [q3]; exact nI_le z (by omega)))
                                       | exact absurd c89 (by rw [q2, fa_eq, nI_toInt (by omega), show ((0 : Int32)).toInt = 0 from by decide]; omega)
                                   have := q4 i2 (by omega)
                                   omega
                             · rcases cur with z | ⟨i0, q1, q2, q3, q4, q5⟩
                               · omega
                               · have tb0 := toI_lt ok (show i0 < 4 by omega) s hn6
                                 have hlt : 2 * toI N i s (N_n N) < 2 * toI N i0 s (N_n N) := by
                                   first
                                     | exact Nat.not_le.mp (fun z => c100 (by rw [q3]; exact nI_le z (by omega)))
                                     | exact absurd c89 (by rw [q2, fa_eq, nI_toInt (by omega), show ((0 : Int32)).toInt = 0 from by decide]; omega)
                                 have := q4 i2 (by omega)
                                 omega)
                      · refine aw_aload_n d_Planner_chooseInns_103 rfl ?_
                        refine aw_get (k := 13) d_Planner_chooseInns_104 cl_Planner k_Planner_34 (by decide) o35 rfl ?_
                        refine aw_iload_n d_Planner_chooseInns_107 rfl ?_
                        refine aw_iload d_Planner_chooseInns_108 rfl ?_
                        refine aw_iastoreN d_Planner_chooseInns_110 o45 (by omega) (by decide) ?_
                        refine aw_gen (fun z => PL h z kn mi me b go lim gs gg gr gf gb sz gk gt gp (upd gi s (nI (2 * toI N i s (N_n N)))) gm) (pl.s45 _) (fun hh pl => ?_)
                        obtain ⟨o35, o36, o37, o38, o39, o40, o41, o42, o43, o44, o45, o46, ofr⟩ := id pl
                        have nX : NX hh 2 N := hX.fr (fun k _ _ => ofr k (by omega))
                        have n0 := nX.1
                        refine aw_aload_n d_Planner_chooseInns_111 rfl ?_
                        refine aw_get (k := 14) d_Planner_chooseInns_112 cl_Planner k_Planner_37 (by decide) o35 rfl ?_
                        refine aw_iload_n d_Planner_chooseInns_115 rfl ?_
                        refine aw_iload_n d_Planner_chooseInns_116 rfl ?_
                        refine aw_iload_n d_Planner_chooseInns_117 rfl ?_
                        refine aw_s0i d_Planner_chooseInns_118 k_Planner_133 ok_Meetings_atInn rfl ⟨rfl, rfl⟩ c_matInn rfl rfl (Nat.le_of_ble_eq_true rfl) ?_
                        refine aw_iastoreN d_Planner_chooseInns_121 o46 (by omega) (by decide) ?_
                        refine aw_iinc (v := nI ((i) + 1)) (L' := [some (.ref 35), some (.int (nI s)), some (.int (nI (pop s))), some (.int (nI ((i) + 1))), some (.int (nI (2 * toI N i s (N_n N))))]) d_Planner_chooseInns_122 rfl (nI_1 _) ⟨by decide, rfl⟩ rfl ?_
                        refine aw_goto (tgt := 59) d_Planner_chooseInns_125 (by decide) ?_
                        have tb := toI_lt ok (show i < 4 by omega) s hn6
                        first
                          | (have z : 2 * toI N i s (N_n N) < 2147483648 := by omega
                             obtain ⟨i0, q1, q2, q3, q4, q5⟩ := cur.elim (fun z => absurd (by rw [z.2]; rfl) c89) id
                             have tb0 := toI_lt ok (show i0 < 4 by omega) s hn6
                             have hle : 2 * toI N i0 s (N_n N) ≤ 2 * toI N i s (N_n N) := (nI_leI (by omega) (by omega)).mp (by rw [← q3]; exact c100)
                             exact aw_drop 4 (ihi (i + 1) hh gi gm (by omega) pl rest (Or.inr ⟨i0, by omega, q2, q3, fun i2 h2 => by
                               by_cases e : i2 = i
                               · rw [e]; omega
                               · exact q4 i2 (by omega), q5⟩)))
                          | (refine aw_drop 4 (ihi (i + 1) _ _ _ (by omega) (pl.s46 _) (fun t ht hn => by rw [pk_un hn, pk_un hn]; exact rest t ht hn) (Or.inr ⟨i, by omega, by rw [pk_us], by rw [pk_us], fun i2 h2 => ?_, fun i2 h2 => ?_⟩))
                             · by_cases e : i2 = i
                               · rw [e]; exact Nat.le_refl _
                               · rcases cur with z | ⟨i0, q1, q2, q3, q4, q5⟩
                                 · omega
                                 · have tb0 := toI_lt ok (show i0 < 4 by omega) s hn6
                                   have hlt : 2 * toI N i s (N_n N) < 2 * toI N i0 s (N_n N) := by
                                     first
                                       | exact Nat.not_le.mp (fun z => c100 (by rw [q3]; exact nI_le z (by omega)))
                                       | exact absurd c89 (by rw [q2, fa_eq, nI_toInt (by omega), show ((0 : Int32)).toInt = 0 from by decide]; omega)
                                   have := q4 i2 (by omega)
                                   omega
                             · rcases cur with z | ⟨i0, q1, q2, q3, q4, q5⟩
                               · omega
                               · have tb0 := toI_lt ok (show i0 < 4 by omega) s hn6
                                 have hlt : 2 * toI N i s (N_n N) < 2 * toI N i0 s (N_n N) := by
                                   first
                                     | exact Nat.not_le.mp (fun z => c100 (by rw [q3]; exact nI_le z (by omega)))
                                     | exact absurd c89 (by rw [q2, fa_eq, nI_toInt (by omega), show ((0 : Int32)).toInt = 0 from by decide]; omega)
                                 have := q4 i2 (by omega)
                                 omega)
              exact loopi (N_ns N) 0 hh gi gm (by omega) pl rest (Or.inl ⟨rfl, gm0⟩)
            · refine aw_goto (tgt := 128) d_Planner_chooseInns_54 (by decide) ?_
              refine aw_iinc (v := nI (s + 1)) (L' := [some (.ref 35), some (.int (nI (s + 1))), some (.int (nI (pop s))), none, none]) d_Planner_chooseInns_128 rfl (nI_1 _) ⟨by decide, rfl⟩ rfl ?_
              refine aw_goto (tgt := 10) d_Planner_chooseInns_131 (by decide) ?_
              have nv : ¬ vld N s := fun z => by
                obtain ⟨z1, z2, z3, z4⟩ := z
                first
                  | exact absurd z2 (Nat.not_le.mpr ((nI_ltI (by omega) (by decide)).mp c28))
                  | exact absurd z3 (Nat.not_le.mpr ((nI_ltI (by omega) (by omega)).mp c39))
                  | exact c51 (by rw [z4]; rfl)
              refine aw_drop 2 (aw_drop 3 (aw_drop 4 (ihs (s + 1) hh gi gm (by omega) (by omega) pl (fun t ht => ?_))))
              by_cases e : t = s
              · refine ⟨fun _ => ?_, fun z => by omega⟩
                rw [e]
                exact ⟨fun _ => gm0, fun z => absurd z.1 nv⟩
              · obtain ⟨a1, a2⟩ := rest t ht e
                exact ⟨fun z => a1 (by omega), fun z => a2 (by omega)⟩
  refine aw_aload_n d_Planner_chooseInns_0 rfl ?_
  refine aw_get (k := 14) d_Planner_chooseInns_1 cl_Planner k_Planner_37 (by decide) o35 rfl ?_
  refine aw_iconst (v := nI 0) d_Planner_chooseInns_4 (by decide) ?_
  refine aw_s0v d_Planner_chooseInns_5 k_Planner_60 ok_JA_fill rfl ⟨rfl, rfl⟩ (c_fill o46 (by decide) (nI 0)) rfl rfl (Nat.le_of_ble_eq_true rfl) ?_
  refine aw_gen (fun z => PL h z kn mi me b go lim gs gg gr gf gb sz gk gt gp gi (fa_fill (fun _ => nI 0) gm 64)) (pl.s46 _) (fun hh pl => ?_)
  obtain ⟨o35, o36, o37, o38, o39, o40, o41, o42, o43, o44, o45, o46, ofr⟩ := id pl
  have nX : NX hh 2 N := hX.fr (fun k _ _ => ofr k (by omega))
  have n0 := nX.1
  refine aw_iconst (v := nI 3) d_Planner_chooseInns_8 (by decide) ?_
  refine aw_istore_n (L' := [some (.ref 35), some (.int (nI 3)), none, none, none]) d_Planner_chooseInns_9 ⟨by decide, rfl⟩ rfl ?_
  refine loops 61 3 hh gi _ (by omega) (Nat.le_refl _) pl (fun t ht => ⟨fun z => ⟨fun _ => fa_fill_in ht, fun y => ?_⟩, fun _ => fa_fill_in ht⟩)
  have y := y.1.2.1
  have : t = 0 ∨ t = 1 ∨ t = 2 := by omega
  rcases this with e | e | e <;> (rw [e] at y; exact absurd y (by decide))
