theorem c_slips0 {m : Nat} {h : ab_H} {N : NS} {me mi tab ve la : Int32} {tl : Nat} {at_ wr : Int32} {fe : Nat} {kp : Bool} (hM : h 56 = oM (N_n N) (N_ns N) (N_ra N) (N_se N) me mi tab ve la tl at_ wr fe kp) (ok : N_ok N) {a u v : Nat} (ha : a < 3) (hu : u < v) (hv : v < N_n N) {A NN fo : Nat} {g : Nat → Int32} (hA : h A = .inl (NN, g)) (hN : NN < 2 ^ 31) (hr : fo + N_n N ≤ NN) {x : Nat → Nat} (hg : ∀ k, k < N_n N → g (fo + k) = nI (x k)) (hAB : A ≠ 72) {gt : Nat → Int32} (hT : h 72 = .inl (6, gt)) : ab_C Y_M_slips [.ref 56, .int (nI (36 * a + 6 * u + v)), .ref A, .int (nI fo), .ref 72] m h (fun r m2 h2 => r = none ∧ m2 = m ∧ ∃ g2 : Nat → Int32, h2 = ab_set h 72 (.inl (6, g2)) ∧ ∀ k, k < N_n N → g2 k = nI (x (tv a u v k))) := by
  have hn6 : N_n N ≤ 6 := ok.1
  refine ab_C.of (L := [some (.ref 56), some (.int (nI (36 * a + 6 * u + v))), some (.ref A), some (.int (nI fo)), some (.ref 72), none, none, none, none]) rfl rfl (Nat.le_of_ble_eq_true rfl) (fun l => ?_)
  have loop2 : ∀ k q (g2 : Nat → Int32), ¬ a = 0 → q + k = (v + 1) → u ≤ q → (∀ k, k < N_n N → g2 k = nI (if k < q then x (tv a u v k) else x k)) → ab_W Y_M_slips none l (fun r m2 h2 => r = none ∧ m2 = m ∧ ∃ g2 : Nat → Int32, h2 = ab_set h 72 (.inl (6, g2)) ∧ ∀ k, k < N_n N → g2 k = nI (x (tv a u v k))) 81 [some (.ref 56), some (.int (nI (36 * a + 6 * u + v))), some (.ref A), some (.int (nI fo)), some (.ref 72), some (.int (nI a)), some (.int (nI u)), some (.int (nI v)), some (.int (nI (q)))] [] m (ab_set h 72 (.inl (6, g2))) (0, 0) := by
    intro k
    induction k with
    | zero =>
      intro q g2 a0 hq hq2 e0
      have hqn : (v + 1) = q := by omega
      subst hqn
      refine aw_iload d_M_slips_81 rfl ?_
      refine aw_iload d_M_slips_83 rfl ?_
      refine aw_icmp_gt (tgt := 141) d_M_slips_85 (by decide) (fun c85 => ?_) (fun c85 => ?_)
      · refine aw_return d_M_slips_141 rfl ?_
        exact ⟨rfl, rfl, g2, rfl, fun k hk => by
          rw [e0 k hk]
          split
          · rfl
          · rw [(tg_out a hu (by omega)).2]⟩
      · exact absurd (nI_lt (by omega) (by omega)) c85
    | succ k ih =>
      intro q g2 a0 hq hq2 e0
      refine aw_iload d_M_slips_81 rfl ?_
      refine aw_iload d_M_slips_83 rfl ?_
      refine aw_icmp_gt (tgt := 141) d_M_slips_85 (by decide) (fun c85 => ?_) (fun c85 => ?_)
      · exact absurd c85 (nI_nlt (by omega) (by omega))
      · refine aw_iload d_M_slips_88 rfl ?_
        refine aw_if_le (tgt := 141) d_M_slips_90 (by decide) (fun c90 => ?_) (fun c90 => ?_)
        · exact absurd c90 (nI_nle (by omega) (by omega))
        · refine aw_aload d_M_slips_93 rfl ?_
          refine aw_iload d_M_slips_95 rfl ?_
          refine aw_aload_n d_M_slips_97 rfl ?_
          refine aw_iload_n d_M_slips_98 rfl ?_
          refine aw_iload d_M_slips_99 rfl ?_
          refine aw_iconst (v := nI 2) d_M_slips_101 (by decide) ?_
          refine aw_icmp_ne (tgt := 116) d_M_slips_102 (by decide) (fun c102 => ?_) (fun c102 => ?_)
          · refine aw_iload d_M_slips_116 rfl ?_
            refine aw_iload d_M_slips_118 rfl ?_
            refine aw_icmp_ne (tgt := 128) d_M_slips_120 (by decide) (fun c120 => ?_) (fun c120 => ?_)
            · refine aw_iload d_M_slips_128 rfl ?_
              refine aw_iconst (v := nI 1) d_M_slips_130 (by decide) ?_
              refine aw_isub d_M_slips_131 ?_
              refine aw_iadd d_M_slips_132 ?_
              have hb : tv a u v q < N_n N := (tv_pm ha hu (show v < 6 by omega)).in hn6 (tv_n hu hv) (by omega)
              refine aw_is (y := nI (fo + tv a u v q)) ?_ ?_
              · unfold tv
                rw [if_neg a0, if_pos (show u ≤ q ∧ q ≤ v by omega)]
                first
                  | (have c102 := (nI_eq (b := 2) (by omega) (by decide)).mp c102
                     rw [if_pos c102, nI_add, pk_sub (by omega), nI_add]; done)
                  | (rw [if_neg (fun z => c102 (by rw [z]))]
                     first
                       | (have c120 := (nI_eq (by omega) (by omega)).mp c120
                          rw [if_pos c120, nI_add]; done)
                       | (have c120 : ¬ q = u := fun z => c120 (by rw [z])
                          rw [if_neg c120, pk_sub (by omega), nI_add]; done))
              refine aw_ialoadN d_M_slips_133 ((ab_set_ne hAB).trans hA) (by omega) hN ?_
              refine aw_iastoreN d_M_slips_134 rfl (by omega) (by decide) ?_
              refine aw_iinc (v := nI ((q) + 1)) (L' := [some (.ref 56), some (.int (nI (36 * a + 6 * u + v))), some (.ref A), some (.int (nI fo)), some (.ref 72), some (.int (nI a)), some (.int (nI u)), some (.int (nI v)), some (.int (nI ((q) + 1)))]) d_M_slips_135 rfl (nI_1 _) ⟨by decide, rfl⟩ rfl ?_
              refine aw_goto (tgt := 81) d_M_slips_138 (by decide) ?_
              rw [ab_set_set, hg (tv a u v q) hb]
              exact ih (q + 1) _ a0 (by omega) (by omega) (fun k hk => by
                by_cases e : k = q
                · subst e; rw [pk_us, if_pos (by omega)]
                · rw [pk_un e, e0 k hk]
                  by_cases e2 : k < q
                  · rw [if_pos e2, if_pos (by omega)]
                  · rw [if_neg e2, if_neg (by omega)])
            · refine aw_iload d_M_slips_123 rfl ?_
              refine aw_goto (tgt := 132) d_M_slips_125 (by decide) ?_
              refine aw_iadd d_M_slips_132 ?_
              have hb : tv a u v q < N_n N := (tv_pm ha hu (show v < 6 by omega)).in hn6 (tv_n hu hv) (by omega)
              refine aw_is (y := nI (fo + tv a u v q)) ?_ ?_
              · unfold tv
                rw [if_neg a0, if_pos (show u ≤ q ∧ q ≤ v by omega)]
                first
                  | (have c102 := (nI_eq (b := 2) (by omega) (by decide)).mp c102
                     rw [if_pos c102, nI_add, pk_sub (by omega), nI_add]; done)
                  | (rw [if_neg (fun z => c102 (by rw [z]))]
                     first
                       | (have c120 := (nI_eq (by omega) (by omega)).mp c120
                          rw [if_pos c120, nI_add]; done)
                       | (have c120 : ¬ q = u := fun z => c120 (by rw [z])
                          rw [if_neg c120, pk_sub (by omega), nI_add]; done))
              refine aw_ialoadN d_M_slips_133 ((ab_set_ne hAB).trans hA) (by omega) hN ?_
              refine aw_iastoreN d_M_slips_134 rfl (by omega) (by decide) ?_
              refine aw_iinc (v := nI ((q) + 1)) (L' := [some (.ref 56), some (.int (nI (36 * a + 6 * u + v))), some (.ref A), some (.int (nI fo)), some (.ref 72), some (.int (nI a)), some (.int (nI u)), some (.int (nI v)), some (.int (nI ((q) + 1)))]) d_M_slips_135 rfl (nI_1 _) ⟨by decide, rfl⟩ rfl ?_
              refine aw_goto (tgt := 81) d_M_slips_138 (by decide) ?_
              rw [ab_set_set, hg (tv a u v q) hb]
              exact ih (q + 1) _ a0 (by omega) (by omega) (fun k hk => by
                by_cases e : k = q
                · subst e; rw [pk_us, if_pos (by omega)]
                · rw [pk_un e, e0 k hk]
                  by_cases e2 : k < q
                  · rw [if_pos e2, if_pos (by omega)]
                  · rw [if_neg e2, if_neg (by omega)])
          · refine aw_iload d_M_slips_105 rfl ?_
            refine aw_iload d_M_slips_107 rfl ?_
            refine aw_iadd d_M_slips_109 ?_
            refine aw_iload d_M_slips_110 rfl ?_
            refine aw_isub d_M_slips_112 ?_
            refine aw_goto (tgt := 132) d_M_slips_113 (by decide) ?_
            refine aw_iadd d_M_slips_132 ?_
            have hb : tv a u v q < N_n N := (tv_pm ha hu (show v < 6 by omega)).in hn6 (tv_n hu hv) (by omega)
            refine aw_is (y := nI (fo + tv a u v q)) ?_ ?_
            · unfold tv
              rw [if_neg a0, if_pos (show u ≤ q ∧ q ≤ v by omega)]
              first
                | (have c102 := (nI_eq (b := 2) (by omega) (by decide)).mp c102
                   rw [if_pos c102, nI_add, pk_sub (by omega), nI_add]; done)
                | (rw [if_neg (fun z => c102 (by rw [z]))]
                   first
                     | (have c120 := (nI_eq (by omega) (by omega)).mp c120
                        rw [if_pos c120, nI_add]; done)
                     | (have c120 : ¬ q = u := fun z => c120 (by rw [z])
                        rw [if_neg c120, pk_sub (by omega), nI_add]; done))
            refine aw_ialoadN d_M_slips_133 ((ab_set_ne hAB).trans hA) (by omega) hN ?_
            refine aw_iastoreN d_M_slips_134 rfl (by omega) (by decide) ?_
            refine aw_iinc (v := nI ((q) + 1)) (L' := [some (.ref 56), some (.int (nI (36 * a + 6 * u + v))), some (.ref A), some (.int (nI fo)), some (.ref 72), some (.int (nI a)), some (.int (nI u)), some (.int (nI v)), some (.int (nI ((q) + 1)))]) d_M_slips_135 rfl (nI_1 _) ⟨by decide, rfl⟩ rfl ?_
            refine aw_goto (tgt := 81) d_M_slips_138 (by decide) ?_
            rw [ab_set_set, hg (tv a u v q) hb]
            exact ih (q + 1) _ a0 (by omega) (by omega) (fun k hk => by
              by_cases e : k = q
              · subst e; rw [pk_us, if_pos (by omega)]
              · rw [pk_un e, e0 k hk]
                by_cases e2 : k < q
                · rw [if_pos e2, if_pos (by omega)]
                · rw [if_neg e2, if_neg (by omega)])
  have fin0 : ∀ (g2 : Nat → Int32), a = 0 → (∀ k, k < N_n N → g2 k = nI (x (tv a u v k))) → ab_W Y_M_slips none l (fun r m2 h2 => r = none ∧ m2 = m ∧ ∃ g2 : Nat → Int32, h2 = ab_set h 72 (.inl (6, g2)) ∧ ∀ k, k < N_n N → g2 k = nI (x (tv a u v k))) 81 [some (.ref 56), some (.int (nI (36 * a + 6 * u + v))), some (.ref A), some (.int (nI fo)), some (.ref 72), some (.int (nI a)), some (.int (nI u)), some (.int (nI v)), some (.int (nI u))] [] m (ab_set h 72 (.inl (6, g2))) (0, 0) := by
    intro g2 a0 e0
    refine aw_iload d_M_slips_81 rfl ?_
    refine aw_iload d_M_slips_83 rfl ?_
    refine aw_icmp_gt (tgt := 141) d_M_slips_85 (by decide) (fun c85 => ?_) (fun c85 => ?_)
    · exact absurd c85 (nI_nlt (by omega) (by omega))
    · refine aw_iload d_M_slips_88 rfl ?_
      refine aw_if_le (tgt := 141) d_M_slips_90 (by decide) (fun c90 => ?_) (fun c90 => ?_)
      · refine aw_return d_M_slips_141 rfl ?_
        exact ⟨rfl, rfl, _, rfl, e0⟩
      · exact absurd (by rw [a0]; decide) c90
  have cont : ∀ (g2 : Nat → Int32), (∀ k, k < N_n N → g2 k = nI (x k)) → ab_W Y_M_slips none l (fun r m2 h2 => r = none ∧ m2 = m ∧ ∃ g2 : Nat → Int32, h2 = ab_set h 72 (.inl (6, g2)) ∧ ∀ k, k < N_n N → g2 k = nI (x (tv a u v k))) 50 [some (.ref 56), some (.int (nI (36 * a + 6 * u + v))), some (.ref A), some (.int (nI fo)), some (.ref 72), some (.int (nI a)), some (.int (nI u)), some (.int (nI v)), some (.int (nI (N_n N)))] [] m (ab_set h 72 (.inl (6, g2))) (0, 0) := by
    intro g2 e0
    refine aw_iload d_M_slips_50 rfl ?_
    refine aw_if_ne (tgt := 77) d_M_slips_52 (by decide) (fun c52 => ?_) (fun c52 => ?_)
    · refine aw_iload d_M_slips_77 rfl ?_
      refine aw_istore (L' := [some (.ref 56), some (.int (nI (36 * a + 6 * u + v))), some (.ref A), some (.int (nI fo)), some (.ref 72), some (.int (nI a)), some (.int (nI u)), some (.int (nI v)), some (.int (nI u))]) d_M_slips_79 ⟨by decide, rfl⟩ rfl ?_
      first
        | (have a0 : ¬ a = 0 := fun z => c52 (by rw [z]; rfl)
           exact loop2 (v + 1 - u) u g2 a0 (by omega) (Nat.le_refl _) (fun k hk => by
             rw [e0 k hk]
             split
             · rw [(tg_low a hu (by assumption)).2]
             · rfl))
        | (rw [ab_set_set, hg u (by omega), hg v (by omega)]
           have e0 : ∀ k, k < N_n N → upd (upd g2 u (nI (x v))) v (nI (x u)) k = nI (x (tv a u v k)) := by
             intro k hk
             unfold tv
             rw [if_pos a0]
             by_cases e1 : k = v
             · subst e1; rw [pk_us, if_neg (by omega), if_pos rfl]
             · rw [pk_un e1]
               by_cases e2 : k = u
               · subst e2; rw [pk_us, if_pos rfl]
               · rw [pk_un e2, if_neg e2, if_neg e1, e0 k hk]
           exact fin0 _ a0 e0)
    · have a0 : a = 0 := (nI_eq (b := 0) (by omega) (by decide)).mp c52
      refine aw_aload d_M_slips_55 rfl ?_
      refine aw_iload d_M_slips_57 rfl ?_
      refine aw_aload_n d_M_slips_59 rfl ?_
      refine aw_iload_n d_M_slips_60 rfl ?_
      refine aw_iload d_M_slips_61 rfl ?_
      refine aw_iadd d_M_slips_63 ?_
      rw [nI_add]
      refine aw_ialoadN d_M_slips_64 ((ab_set_ne hAB).trans hA) (by omega) hN ?_
      refine aw_iastoreN d_M_slips_65 rfl (by omega) (by decide) ?_
      rw [ab_set_set]
      refine aw_aload d_M_slips_66 rfl ?_
      refine aw_iload d_M_slips_68 rfl ?_
      refine aw_aload_n d_M_slips_70 rfl ?_
      refine aw_iload_n d_M_slips_71 rfl ?_
      refine aw_iload d_M_slips_72 rfl ?_
      refine aw_iadd d_M_slips_74 ?_
      rw [nI_add]
      refine aw_ialoadN d_M_slips_75 ((ab_set_ne hAB).trans hA) (by omega) hN ?_
      refine aw_iastoreN d_M_slips_76 rfl (by omega) (by decide) ?_
      refine aw_iload d_M_slips_77 rfl ?_
      refine aw_istore (L' := [some (.ref 56), some (.int (nI (36 * a + 6 * u + v))), some (.ref A), some (.int (nI fo)), some (.ref 72), some (.int (nI a)), some (.int (nI u)), some (.int (nI v)), some (.int (nI u))]) d_M_slips_79 ⟨by decide, rfl⟩ rfl ?_
      first
        | (have a0 : ¬ a = 0 := fun z => c52 (by rw [z]; rfl)
           exact loop2 (v + 1 - u) u g2 a0 (by omega) (Nat.le_refl _) (fun k hk => by
             rw [e0 k hk]
             split
             · rw [(tg_low a hu (by assumption)).2]
             · rfl))
        | (rw [ab_set_set, hg u (by omega), hg v (by omega)]
           have e0 : ∀ k, k < N_n N → upd (upd g2 u (nI (x v))) v (nI (x u)) k = nI (x (tv a u v k)) := by
             intro k hk
             unfold tv
             rw [if_pos a0]
             by_cases e1 : k = v
             · subst e1; rw [pk_us, if_neg (by omega), if_pos rfl]
             · rw [pk_un e1]
               by_cases e2 : k = u
               · subst e2; rw [pk_us, if_pos rfl]
               · rw [pk_un e2, if_neg e2, if_neg e1, e0 k hk]
           exact fin0 _ a0 e0)
  have loop1 : ∀ k q (g2 : Nat → Int32), q + k = N_n N → (∀ k, k < q → g2 k = nI (x k)) → ab_W Y_M_slips none l (fun r m2 h2 => r = none ∧ m2 = m ∧ ∃ g2 : Nat → Int32, h2 = ab_set h 72 (.inl (6, g2)) ∧ ∀ k, k < N_n N → g2 k = nI (x (tv a u v k))) 24 [some (.ref 56), some (.int (nI (36 * a + 6 * u + v))), some (.ref A), some (.int (nI fo)), some (.ref 72), some (.int (nI a)), some (.int (nI u)), some (.int (nI v)), some (.int (nI (q)))] [] m (ab_set h 72 (.inl (6, g2))) (0, 0) := by
    intro k
    induction k with
    | zero =>
      intro q g2 hq e0
      have hqn : N_n N = q := by omega
      subst hqn
      refine aw_iload d_M_slips_24 rfl ?_
      refine aw_aload_n d_M_slips_26 rfl ?_
      refine aw_get (k := 0) d_M_slips_27 cl_Model k_M_118 (by decide) ((ab_set_ne (show 56 ≠ 72 by decide)).trans hM) rfl ?_
      refine aw_icmp_ge (tgt := 50) d_M_slips_30 (by decide) (fun c30 => ?_) (fun c30 => ?_)
      · exact cont g2 e0
      · exact absurd (Int32.le_refl _) c30
    | succ k ih =>
      intro q g2 hq e0
      refine aw_iload d_M_slips_24 rfl ?_
      refine aw_aload_n d_M_slips_26 rfl ?_
      refine aw_get (k := 0) d_M_slips_27 cl_Model k_M_118 (by decide) ((ab_set_ne (show 56 ≠ 72 by decide)).trans hM) rfl ?_
      refine aw_icmp_ge (tgt := 50) d_M_slips_30 (by decide) (fun c30 => ?_) (fun c30 => ?_)
      · exact absurd c30 (nI_ge (by omega) (by omega))
      · refine aw_aload d_M_slips_33 rfl ?_
        refine aw_iload d_M_slips_35 rfl ?_
        refine aw_aload_n d_M_slips_37 rfl ?_
        refine aw_iload_n d_M_slips_38 rfl ?_
        refine aw_iload d_M_slips_39 rfl ?_
        refine aw_iadd d_M_slips_41 ?_
        rw [nI_add]
        refine aw_ialoadN d_M_slips_42 ((ab_set_ne hAB).trans hA) (by omega) hN ?_
        refine aw_iastoreN d_M_slips_43 rfl (by omega) (by decide) ?_
        refine aw_iinc (v := nI ((q) + 1)) (L' := [some (.ref 56), some (.int (nI (36 * a + 6 * u + v))), some (.ref A), some (.int (nI fo)), some (.ref 72), some (.int (nI a)), some (.int (nI u)), some (.int (nI v)), some (.int (nI ((q) + 1)))]) d_M_slips_44 rfl (nI_1 _) ⟨by decide, rfl⟩ rfl ?_
        refine aw_goto (tgt := 24) d_M_slips_47 (by decide) ?_
        rw [ab_set_set, hg q (by omega)]
        exact ih (q + 1) _ (by omega) (fun k hk => by
          by_cases e : k = q
          · subst e; exact pk_us
          · rw [pk_un e]; exact e0 k (by omega))
  refine aw_iload_n d_M_slips_0 rfl ?_
  refine aw_bipush (v := nI 36) d_M_slips_1 (by decide) ?_
  refine aw_idiv d_M_slips_3 (by decide) ?_
  rw [dv (by omega) (by decide) (by decide), show (36 * a + 6 * u + v) / 36 = a by omega]
  refine aw_istore (L' := [some (.ref 56), some (.int (nI (36 * a + 6 * u + v))), some (.ref A), some (.int (nI fo)), some (.ref 72), some (.int (nI a)), none, none, none]) d_M_slips_4 ⟨by decide, rfl⟩ rfl ?_
  refine aw_iload_n d_M_slips_6 rfl ?_
  refine aw_bipush (v := nI 6) d_M_slips_7 (by decide) ?_
  refine aw_idiv d_M_slips_9 (by decide) ?_
  rw [dv (by omega) (by decide) (by decide)]
  refine aw_bipush (v := nI 6) d_M_slips_10 (by decide) ?_
  refine aw_irem d_M_slips_12 (by decide) ?_
  rw [rm (by omega) (by decide) (by decide), show (36 * a + 6 * u + v) / 6 % 6 = u by omega]
  refine aw_istore (L' := [some (.ref 56), some (.int (nI (36 * a + 6 * u + v))), some (.ref A), some (.int (nI fo)), some (.ref 72), some (.int (nI a)), some (.int (nI u)), none, none]) d_M_slips_13 ⟨by decide, rfl⟩ rfl ?_
  refine aw_iload_n d_M_slips_15 rfl ?_
  refine aw_bipush (v := nI 6) d_M_slips_16 (by decide) ?_
  refine aw_irem d_M_slips_18 (by decide) ?_
  rw [rm (by omega) (by decide) (by decide), show (36 * a + 6 * u + v) % 6 = v by omega]
  refine aw_istore (L' := [some (.ref 56), some (.int (nI (36 * a + 6 * u + v))), some (.ref A), some (.int (nI fo)), some (.ref 72), some (.int (nI a)), some (.int (nI u)), some (.int (nI v)), none]) d_M_slips_19 ⟨by decide, rfl⟩ rfl ?_
  refine aw_iconst (v := nI 0) d_M_slips_21 (by decide) ?_
  refine aw_istore (L' := [some (.ref 56), some (.int (nI (36 * a + 6 * u + v))), some (.ref A), some (.int (nI fo)), some (.ref 72), some (.int (nI a)), some (.int (nI u)), some (.int (nI v)), some (.int (nI 0))]) d_M_slips_22 ⟨by decide, rfl⟩ rfl ?_
  exact aw_heap (ab_set_eq (h := h) (a := 72) hT) (loop1 (N_n N) 0 gt (by omega) (fun k hk => absurd hk (Nat.not_lt_zero _)))
theorem c_slips {m : Nat} {h : ab_H} {N : NS} {me mi tab ve la : Int32} {tl : Nat} {at_ wr : Int32} {fe : Nat} {kp : Bool} (hM : h 56 = oM (N_n N) (N_ns N) (N_ra N) (N_se N) me mi tab ve la tl at_ wr fe kp) (ok : N_ok N) {s : Nat} (hs : ∃ a u v, s = 36 * a + 6 * u + v ∧ a < 3 ∧ u < v ∧ v < N_n N) {A NN fo : Nat} {g : Nat → Int32} (hA : h A = .inl (NN, g)) (hN : NN < 2 ^ 31) (hr : fo + N_n N ≤ NN) {x : Nat → Nat} (hg : ∀ k, k < N_n N → g (fo + k) = nI (x k)) (hAB : A ≠ 72) {gt : Nat → Int32} (hT : h 72 = .inl (6, gt)) : ab_C Y_M_slips [.ref 56, .int (nI s), .ref A, .int (nI fo), .ref 72] m h (fun r m2 h2 => r = none ∧ m2 = m ∧ ∃ g2 : Nat → Int32, h2 = ab_set h 72 (.inl (6, g2)) ∧ ∀ k, k < N_n N → g2 k = nI (x (tvs s k))) := by
  obtain ⟨a, u, v, rfl, ha, hu, hv⟩ := hs
  rw [(tgs_e hu (by have := ok.1; omega)).2]
  exact c_slips0 hM ok ha hu hv hA hN hr hg hAB hT
theorem PMn.th {h : ab_H} {N : NS} (hP : PMn h N) (g : Nat → Int32) : PMn (ab_set h 72 (.inl (6, g))) N := by
  obtain ⟨n0, n1, n2, n3, n4, n5, n6, n7, n8, n9⟩ := hP
  exact ⟨n0, n1, n2, n3, n4, n5, n6, n7, n8, n9⟩
theorem c_MharmOf {m : Nat} {h : ab_H} {N : NS} {me mi tab ve la : Int32} {tl : Nat} {at_ wr : Int32} {fe : Nat} {kp : Bool} (hM : h 56 = oM (N_n N) (N_ns N) (N_ra N) (N_se N) me mi tab ve la tl at_ wr fe kp) (hP : PMn h N) (ok : N_ok N) {f : Nat} (hfe : f < N_fe N) (hfe2 : fe = N_fe N) {A NN fo : Nat} {g : Nat → Int32} (hA : h A = .inl (NN, g)) (hN : NN < 2 ^ 31) (hr : fo + N_n N ≤ NN) {x : Nat → Nat} (xp : Pm x) (hf : ∀ k, N_n N ≤ k → x k = k) (hg : ∀ k, k < N_n N → g (fo + k) = nI (x k)) (hAB : A ≠ 72) {gt : Nat → Int32} (hT : h 72 = .inl (6, gt)) : ab_C Y_M_harmOf [.ref 56, .int (nI f), .ref A, .int (nI fo)] m h (fun r m2 h2 => r = some (.int (nI (hrm N (N_ff N f) x (N_n N)))) ∧ m2 = m ∧ ∃ g2 : Nat → Int32, h2 = ab_set h 72 (.inl (6, g2))) := by
  obtain ⟨⟨gx, hx, ax⟩, ⟨gy, hy, ay⟩, ⟨gm, hm, am⟩, ⟨gh, hh, ah⟩, ⟨gl, hl, al⟩, ⟨gw, hw, aw⟩, ⟨ga, ha0, aa⟩, ⟨gi, hi, ai⟩, ⟨gj, hj0, aj⟩, ⟨gf, hf0, af⟩⟩ := id hP
  have hn6 : N_n N ≤ 6 := ok.1
  have hns : N_ns N ≤ 4 := ok.2.2.2.2.2.2.2.2.1
  have hw6 := ok.w6
  have aw : ∀ k, k < N_n N → gw k = nI (N_w N / 2 ^ k % 2) := aw
  have bx := ok.2.2.2.2.2.1
  have bi := ok.2.2.2.2.2.2.2.2.2.1
  have h6 := ok.fe6
  have tvp : Pm (tvs (N_ff N f)) := by
    obtain ⟨a, u, v, e, ha, hu, hv⟩ := ok.fe f hfe
    rw [e, (tgs_e hu (by omega)).2]
    exact tv_pm ha hu (by omega)
  refine ab_C.of (L := [some (.ref 56), some (.int (nI f)), some (.ref A), some (.int (nI fo)), none, none]) rfl rfl (Nat.le_of_ble_eq_true rfl) (fun l => ?_)
  refine aw_aload_n d_M_harmOf_0 rfl ?_
  refine aw_aload_n d_M_harmOf_1 rfl ?_
  refine aw_get (k := 35) d_M_harmOf_2 cl_Model k_M_88 (by decide) hM rfl ?_
  refine aw_iload_n d_M_harmOf_5 rfl ?_
  refine aw_ialoadN d_M_harmOf_6 hf0 (by omega) (by decide) ?_
  rw [af f (by omega)]
  refine aw_aload_n d_M_harmOf_7 rfl ?_
  refine aw_iload_n d_M_harmOf_8 rfl ?_
  refine aw_aload_n d_M_harmOf_9 rfl ?_
  refine aw_get (k := 22) d_M_harmOf_10 cl_Model k_M_63 (by decide) hM rfl ?_
  refine aw_v0 (a := 56) d_M_harmOf_13 k_M_303 ok_M_slips rfl ⟨rfl, rfl⟩ cl_Model hM (c_slips hM ok (ok.fe f hfe) hA hN hr hg hAB hT) rfl rfl (Nat.le_of_ble_eq_true rfl) (fun r m2 h2 q => ?_)
  obtain ⟨rfl, em, g2, rfl, eg⟩ := q
  rw [em]
  have hP2 := hP.th g2
  show ab_W _ _ _ _ 16 _ [] _ _ _
  refine aw_iconst (v := nI 0) d_M_harmOf_16 (by decide) ?_
  refine aw_istore (L' := [some (.ref 56), some (.int (nI f)), some (.ref A), some (.int (nI fo)), some (.int (nI 0)), none]) d_M_harmOf_17 ⟨by decide, rfl⟩ rfl ?_
  refine aw_iconst (v := nI 0) d_M_harmOf_19 (by decide) ?_
  refine aw_istore (L' := [some (.ref 56), some (.int (nI f)), some (.ref A), some (.int (nI fo)), some (.int (nI 0)), some (.int (nI 0))]) d_M_harmOf_20 ⟨by decide, rfl⟩ rfl ?_
  have loop : ∀ k q, q + k = N_n N → ab_W Y_M_harmOf none l (fun r m2 h2 => r = some (.int (nI (hrm N (N_ff N f) x (N_n N)))) ∧ m2 = m ∧ ∃ g2 : Nat → Int32, h2 = ab_set h 72 (.inl (6, g2))) 22 [some (.ref 56), some (.int (nI f)), some (.ref A), some (.int (nI fo)), some (.int (nI (fb_sm (fun k => fr N (x k) (x (tvs (N_ff N f) k))) (q)))), some (.int (nI (q)))] [] m (ab_set h 72 (.inl (6, g2))) (0, 0) := by
    intro k
    induction k with
    | zero =>
      intro q hq 
      have hqn : N_n N = q := by omega
      subst hqn
      refine aw_iload d_M_harmOf_22 rfl ?_
      refine aw_aload_n d_M_harmOf_24 rfl ?_
      refine aw_get (k := 0) d_M_harmOf_25 cl_Model k_M_118 (by decide) ((ab_set_ne (show 56 ≠ 72 by decide)).trans hM) rfl ?_
      refine aw_icmp_ge (tgt := 59) d_M_harmOf_28 (by decide) (fun c28 => ?_) (fun c28 => ?_)
      · refine aw_iload d_M_harmOf_59 rfl ?_
        refine aw_ireturn d_M_harmOf_61 rfl rfl ?_
        exact ⟨by rw [hrm_t ok (ok.fe f hfe) xp hf], rfl, g2, rfl⟩
      · exact absurd (Int32.le_refl _) c28
    | succ k ih =>
      intro q hq 
      refine aw_iload d_M_harmOf_22 rfl ?_
      refine aw_aload_n d_M_harmOf_24 rfl ?_
      refine aw_get (k := 0) d_M_harmOf_25 cl_Model k_M_118 (by decide) ((ab_set_ne (show 56 ≠ 72 by decide)).trans hM) rfl ?_
      refine aw_icmp_ge (tgt := 59) d_M_harmOf_28 (by decide) (fun c28 => ?_) (fun c28 => ?_)
      · exact absurd c28 (nI_ge (by omega) (by omega))
      · refine aw_iload d_M_harmOf_31 rfl ?_
        refine aw_aload_n d_M_harmOf_33 rfl ?_
        refine aw_aload_n d_M_harmOf_34 rfl ?_
        refine aw_iload_n d_M_harmOf_35 rfl ?_
        refine aw_iload d_M_harmOf_36 rfl ?_
        refine aw_iadd d_M_harmOf_38 ?_
        rw [nI_add]
        refine aw_ialoadN d_M_harmOf_39 ((ab_set_ne hAB).trans hA) (by omega) hN ?_
        rw [hg q (by omega)]
        refine aw_aload_n d_M_harmOf_40 rfl ?_
        refine aw_get (k := 22) d_M_harmOf_41 cl_Model k_M_63 (by decide) ((ab_set_ne (show 56 ≠ 72 by decide)).trans hM) rfl ?_
        refine aw_iload d_M_harmOf_44 rfl ?_
        refine aw_ialoadN d_M_harmOf_46 rfl (by omega) (by decide) ?_
        rw [eg q (by omega)]
        refine aw_v0i (a := 56) d_M_harmOf_47 k_M_196 ok_M_far rfl ⟨rfl, rfl⟩ cl_Model ((ab_set_ne (show 56 ≠ 72 by decide)).trans hM) (c_Mfar ((ab_set_ne (show 56 ≠ 72 by decide)).trans hM) hP2 ok (xp.1 _ (by omega)) (xp.1 _ (tvp.1 q (by omega)))) rfl rfl (Nat.le_of_ble_eq_true rfl) ?_
        refine aw_iadd d_M_harmOf_50 ?_
        refine aw_topi (fun v51 ev51 => ?_)
        refine aw_istore (L' := [some (.ref 56), some (.int (nI f)), some (.ref A), some (.int (nI fo)), some (.int v51), some (.int (nI (q)))]) d_M_harmOf_51 ⟨by decide, rfl⟩ rfl ?_
        refine aw_iinc (v := nI ((q) + 1)) (L' := [some (.ref 56), some (.int (nI f)), some (.ref A), some (.int (nI fo)), some (.int v51), some (.int (nI ((q) + 1)))]) d_M_harmOf_53 rfl (nI_1 _) ⟨by decide, rfl⟩ rfl ?_
        refine aw_goto (tgt := 22) d_M_harmOf_56 (by decide) ?_
        rw [show v51 = nI (fb_sm (fun k => fr N (x k) (x (tvs (N_ff N f) k))) (q + 1)) by rw [ev51, nI_add, fb_sm_succ]]
        exact ih (q + 1) (by omega)
  exact loop (N_n N) 0 (by omega)
theorem y_harm {V : VV} {m c : Nat} {h : ab_H} {S : SS} (hM : PM V c h S) (ok : S_ok S) (hc : c < 900) (sl sh lane i : Int32) : CM V Y_M_harm [.int sl, .int sh, .int lane, .int i] m c h (fun r S2 => (r, S2) = sp_harm S sl sh lane i) := by
  obtain ⟨⟨tab, la, at_, wr, ve, fs, ft, m0, m1, m2, m3, m4, m5, m6⟩, ⟨n0, n1, n2, n3, n4, n5, n6, n7, n8, n9⟩, q1, q2, q3, q4⟩ := id hM
  have hn6 : N_n (S_N S) ≤ 6 := ok.1.1
  have hnT := nI_toInt (show N_n (S_N S) < 2 ^ 31 by omega)
  have hfe := ok.1.fe6
  have hfT : (nI (N_fe (S_N S)) - nI 1).toInt = (N_fe (S_N S) : Int) - 1 := n_1T hfe
  obtain ⟨gt, ht⟩ := id q3.2.2.2.2.2.2.1
  refine ab_C.of (L := [some (.ref 56), some (.int sl), some (.int sh), some (.int lane), some (.int i), none]) rfl rfl (Nat.le_of_ble_eq_true rfl) (fun l => ?_)
  refine aw_iload_n d_M_harm_0 rfl ?_
  refine aw_i2l d_M_harm_1 ?_
  refine aw_lconst (v := lN 0) d_M_harm_2 (by decide) ?_
  refine aw_aload_n d_M_harm_3 rfl ?_
  refine aw_get (k := 34) d_M_harm_4 cl_Model k_M_187 (by decide) m0 rfl ?_
  refine aw_iconst (v := nI 1) d_M_harm_7 (by decide) ?_
  refine aw_isub d_M_harm_8 ?_
  refine aw_i2l d_M_harm_9 ?_
  refine aw_s0i d_M_harm_10 k_M_121 ok_M_in rfl ⟨rfl, rfl⟩ (c_in sl.toInt64 (lN 0) (((nI (N_fe (S_N S))) - (nI 1)).toInt64)) rfl rfl (Nat.le_of_ble_eq_true rfl) ?_
  refine aw_if_ne (tgt := 18) d_M_harm_13 (by decide) (fun c13 => ?_) (fun c13 => ?_)
  · have irs : ir sl 0 (N_fe (S_N S) - 1 : Int) := by
      have := of_decide_eq_true (ab_bl_1.mp c13)
      rw [i64_toInt, tl0, i64_toInt, hfT] at this
      exact this
    obtain ⟨q, hq, rfl⟩ := irN irs
    refine aw_aload_n d_M_harm_18 rfl ?_
    refine aw_iload_n d_M_harm_19 rfl ?_
    refine aw_iload_n d_M_harm_20 rfl ?_
    refine aw_iload d_M_harm_21 rfl ?_
    refine aw_v0 (a := 56) d_M_harm_23 k_M_166 ok_M_takes rfl ⟨rfl, rfl⟩ cl_Model m0 (c_takes hM ok sh lane i) rfl rfl (Nat.le_of_ble_eq_true rfl) (fun r m2 h2 q => ?_)
    obtain ⟨rfl, em, g, rfl, hgk⟩ := q
    rw [em]
    show ab_W _ _ _ _ 26 _ [.int (sp_take S sh lane i)] _ _ _
    refine aw_topi (fun v26 ev26 => ?_)
    refine aw_istore (L' := [some (.ref 56), some (.int (nI q)), some (.int sh), some (.int lane), some (.int i), some (.int v26)]) d_M_harm_26 ⟨by decide, rfl⟩ rfl ?_
    refine aw_iload d_M_harm_28 rfl ?_
    refine aw_if_ge (tgt := 38) d_M_harm_30 (by decide) (fun c30 => ?_) (fun c30 => ?_)
    · have t01 := sp_take_0 ok (Int32.not_lt.mpr (by rw [← ev26]; exact c30))
      obtain ⟨t0, tgq⟩ := t01
      obtain ⟨tp, tf, ti⟩ := tkg_pm hn6 tgq
      refine aw_aload_n d_M_harm_38 rfl ?_
      refine aw_iload_n d_M_harm_39 rfl ?_
      refine aw_aload_n d_M_harm_40 rfl ?_
      refine aw_get (k := 15) d_M_harm_41 cl_Model k_M_44 (by decide) m0 rfl ?_
      refine aw_iconst (v := nI 0) d_M_harm_44 (by decide) ?_
      refine aw_v0 (a := 56) d_M_harm_45 k_M_314 ok_M_harmOf rfl ⟨rfl, rfl⟩ cl_Model m0 (c_MharmOf (h := ab_set h 66 (.inl (6, g))) (N := S_N S) m0 ⟨n0, n1, n2, n3, n4, n5, n6, n7, n8, n9⟩ ok.1 hq rfl (A := 66) (fo := 0) rfl (by decide) (by omega) tp tf (fun k hk => by rw [Nat.zero_add]; exact hgk t0 k hk) (by decide) (gt := gt) ht) rfl rfl (Nat.le_of_ble_eq_true rfl) (fun r m2 h2 q => ?_)
      obtain ⟨rfl, em, g2, rfl⟩ := q
      rw [em]
      show ab_W _ _ _ _ 48 _ [.int (nI (hrm (S_N S) (N_ff (S_N S) q) (tkf S sh i) (N_n (S_N S))))] _ _ _
      refine aw_ireturn d_M_harm_48 rfl rfl ?_
      first
        | (refine ⟨_, S, rfl, ?_, ⟨⟨tab, la, at_, wr, ve, fs, ft, m0, by omega, by omega, m3, m4, m5, m6⟩, ⟨n0, n1, n2, n3, n4, n5, n6, n7, n8, n9⟩, q1, q2, ⟨⟨g, rfl⟩, q3.2.1, q3.2.2.1, q3.2.2.2.1, q3.2.2.2.2.1, q3.2.2.2.2.2.1, ⟨g2, rfl⟩, q3.2.2.2.2.2.2.2⟩, q4⟩, rfl, (fun k hk => by rw [ab_set_ne (by omega), ab_set_ne (by omega)])⟩
           unfold sp_harm
           rw [if_pos irs, t0, if_neg (by decide), cl_nI (by omega)]; done)
        | (refine ⟨_, S, rfl, ?_, ⟨⟨tab, la, at_, wr, ve, fs, ft, m0, by omega, by omega, m3, m4, m5, m6⟩, ⟨n0, n1, n2, n3, n4, n5, n6, n7, n8, n9⟩, q1, q2, ⟨⟨g, rfl⟩, q3.2⟩, q4⟩, rfl, (fun k hk => ab_set_ne (by omega))⟩
           unfold sp_harm
           rw [if_pos irs, if_pos (by rw [← ev26]; exact Int32.not_le.mp c30), ev26]; done)
    · refine aw_iload d_M_harm_33 rfl ?_
      refine aw_goto (tgt := 48) d_M_harm_35 (by decide) ?_
      refine aw_ireturn d_M_harm_48 rfl rfl ?_
      first
        | (refine ⟨_, S, rfl, ?_, ⟨⟨tab, la, at_, wr, ve, fs, ft, m0, by omega, by omega, m3, m4, m5, m6⟩, ⟨n0, n1, n2, n3, n4, n5, n6, n7, n8, n9⟩, q1, q2, ⟨⟨g, rfl⟩, q3.2.1, q3.2.2.1, q3.2.2.2.1, q3.2.2.2.2.1, q3.2.2.2.2.2.1, ⟨g2, rfl⟩, q3.2.2.2.2.2.2.2⟩, q4⟩, rfl, (fun k hk => by rw [ab_set_ne (by omega), ab_set_ne (by omega)])⟩
           unfold sp_harm
           rw [if_pos irs, t0, if_neg (by decide), cl_nI (by omega)]; done)
        | (refine ⟨_, S, rfl, ?_, ⟨⟨tab, la, at_, wr, ve, fs, ft, m0, by omega, by omega, m3, m4, m5, m6⟩, ⟨n0, n1, n2, n3, n4, n5, n6, n7, n8, n9⟩, q1, q2, ⟨⟨g, rfl⟩, q3.2⟩, q4⟩, rfl, (fun k hk => ab_set_ne (by omega))⟩
           unfold sp_harm
           rw [if_pos irs, if_pos (by rw [← ev26]; exact Int32.not_le.mp c30), ev26]; done)
  · refine aw_iconst (v := (-1)) d_M_harm_16 (by decide) ?_
    refine aw_ireturn d_M_harm_17 rfl rfl ?_
    refine ⟨_, S, rfl, ?_, ⟨⟨tab, la, at_, wr, ve, fs, ft, m0, by omega, by omega, m3, m4, m5, m6⟩, ⟨n0, n1, n2, n3, n4, n5, n6, n7, n8, n9⟩, q1, q2, q3, q4⟩, rfl, fun k _ => rfl⟩
    unfold sp_harm
    rw [if_neg]
    intro z
    have := of_decide_eq_false (ab_bl_0.mp c13)
    rw [i64_toInt, tl0, i64_toInt, hfT] at this
    exact this z
