theorem c_MmilesOf {m : Nat} {h : ab_H} {N : NS} {me mi tab ve la : Int32} {tl : Nat} {at_ wr : Int32} {fe : Nat} {kp : Bool} (hM : h 56 = oM (N_n N) (N_ns N) (N_ra N) (N_se N) me mi tab ve la tl at_ wr fe kp) (hP : PMn h N) (ok : N_ok N) {A NN fo : Nat} {g : Nat → Int32} (hA : h A = .inl (NN, g)) (hN : NN < 2 ^ 31) (hr : fo + N_n N ≤ NN) {t : Nat → Nat} (ht : Pm t) (hf : ∀ k, N_n N ≤ k → t k = k) (hg : ∀ k, k < N_n N → g (fo + k) = nI (t k)) {k : Nat} (hk : k < 2 ^ 31) {s : Nat} (hs : s < 64) (h0 : k / 10000 = 0 → k % 10000 / 100 < 6 ∧ k % 10000 % 100 < 6) (h1 : k / 10000 = 1 → k % 10000 / 1000 < 4) (h2 : k / 10000 = 2 → ∀ p, p < N_n N → (s / 2 ^ t p % 2 = 1 ↔ s / 2 ^ p % 2 = 1)) (h3 : k / 10000 ≤ 2) : ab_D Y_M_milesOf [.ref 56, .ref A, .int (nI fo), .int (nI k), .int (nI s)] m h (some (.int (nI (mil N t k s)))) m (h) := by
  refine ab_C.of (L := [some (.ref 56), some (.ref A), some (.int (nI fo)), some (.int (nI k)), some (.int (nI s)), none, none, none, none, none]) rfl rfl (Nat.le_of_ble_eq_true rfl) (fun l => ?_)
  obtain ⟨⟨gx, hx, ax⟩, ⟨gy, hy, ay⟩, ⟨gm, hm, am⟩, ⟨gh, hh, ah⟩, ⟨gl, hl, al⟩, ⟨gw, hw, aw⟩, ⟨ga, ha0, aa⟩, ⟨gi, hi, ai⟩, ⟨gj, hj0, aj⟩, ⟨gf, hf0, af⟩⟩ := id hP
  have hn6 : N_n N ≤ 6 := ok.1
  have hns : N_ns N ≤ 4 := ok.2.2.2.2.2.2.2.2.1
  have hw6 := ok.w6
  have aw : ∀ k, k < N_n N → gw k = nI (N_w N / 2 ^ k % 2) := aw
  have bx := ok.2.2.2.2.2.1
  have bi := ok.2.2.2.2.2.2.2.2.2.1
  refine aw_iload_n d_M_milesOf_0 rfl ?_
  refine aw_sipush (v := nI 10000) d_M_milesOf_1 (by decide) ?_
  refine aw_idiv d_M_milesOf_4 (by decide) ?_
  rw [dv hk (by decide) (by decide)]
  refine aw_istore (L' := [some (.ref 56), some (.ref A), some (.int (nI fo)), some (.int (nI k)), some (.int (nI s)), some (.int (nI (k / 10000))), none, none, none, none]) d_M_milesOf_5 ⟨by decide, rfl⟩ rfl ?_
  refine aw_iload_n d_M_milesOf_7 rfl ?_
  refine aw_sipush (v := nI 10000) d_M_milesOf_8 (by decide) ?_
  refine aw_irem d_M_milesOf_11 (by decide) ?_
  rw [rm hk (by decide) (by decide)]
  refine aw_istore (L' := [some (.ref 56), some (.ref A), some (.int (nI fo)), some (.int (nI k)), some (.int (nI s)), some (.int (nI (k / 10000))), some (.int (nI (k % 10000))), none, none, none]) d_M_milesOf_12 ⟨by decide, rfl⟩ rfl ?_
  refine aw_iload d_M_milesOf_14 rfl ?_
  refine aw_if_ne (tgt := 36) d_M_milesOf_16 (by decide) (fun c16 => ?_) (fun c16 => ?_)
  · refine aw_iconst (v := nI 0) d_M_milesOf_36 (by decide) ?_
    refine aw_istore (L' := [some (.ref 56), some (.ref A), some (.int (nI fo)), some (.int (nI k)), some (.int (nI s)), some (.int (nI (k / 10000))), some (.int (nI (k % 10000))), some (.int (nI 0)), none, none]) d_M_milesOf_37 ⟨by decide, rfl⟩ rfl ?_
    refine aw_iconst (v := nI 0) d_M_milesOf_39 (by decide) ?_
    refine aw_istore (L' := [some (.ref 56), some (.ref A), some (.int (nI fo)), some (.int (nI k)), some (.int (nI s)), some (.int (nI (k / 10000))), some (.int (nI (k % 10000))), some (.int (nI 0)), some (.int (nI 0)), none]) d_M_milesOf_40 ⟨by decide, rfl⟩ rfl ?_
    have k9 : k / 10000 = 1 ∨ k / 10000 = 2 := by
      have : ¬ k / 10000 = 0 := fun q => c16 (by rw [q]; rfl)
      omega
    rcases k9 with k0 | k0
    · have h1 := h1 k0
      rw [k0]
      have loop1 : ∀ kf j, j + kf = N_n N → ab_W Y_M_milesOf none l (fun r m2 h2 => r = some (.int (nI (mil N t k s))) ∧ m2 = m ∧ h2 = h) 42 [some (.ref 56), some (.ref A), some (.int (nI fo)), some (.int (nI k)), some (.int (nI s)), some (.int (nI 1)), some (.int (nI (k % 10000))), some (.int (nI (2 * toI N (k % 10000 / 1000) s (j)))), some (.int (nI (j))), none] [] m (h) (0, 0) := by
        intro kf
        induction kf with
        | zero =>
          intro j hj 
          have hjn : N_n N = j := by omega
          subst hjn
          refine aw_iload d_M_milesOf_42 rfl ?_
          refine aw_aload_n d_M_milesOf_44 rfl ?_
          refine aw_get (k := 0) d_M_milesOf_45 cl_Model k_M_118 (by decide) hM rfl ?_
          refine aw_icmp_ge (tgt := 144) d_M_milesOf_48 (by decide) (fun c48 => ?_) (fun c48 => ?_)
          · refine aw_iload d_M_milesOf_144 rfl ?_
            refine aw_ireturn d_M_milesOf_146 rfl rfl ?_
            exact ⟨by unfold mil; rw [if_neg (by omega), if_pos k0], rfl, rfl⟩
          · exact absurd (Int32.le_refl _) c48
        | succ kf ih =>
          intro j hj 
          refine aw_iload d_M_milesOf_42 rfl ?_
          refine aw_aload_n d_M_milesOf_44 rfl ?_
          refine aw_get (k := 0) d_M_milesOf_45 cl_Model k_M_118 (by decide) hM rfl ?_
          refine aw_icmp_ge (tgt := 144) d_M_milesOf_48 (by decide) (fun c48 => ?_) (fun c48 => ?_)
          · exact absurd c48 (nI_ge (by omega) (by omega))
          · refine aw_iload d_M_milesOf_51 rfl ?_
            refine aw_iload d_M_milesOf_53 rfl ?_
            refine aw_ishr d_M_milesOf_55 ?_
            refine aw_iconst (v := nI 1) d_M_milesOf_56 (by decide) ?_
            refine aw_iand d_M_milesOf_57 ?_
            rw [b_at (by omega) (by omega)]
            refine aw_iconst (v := nI 1) d_M_milesOf_58 (by decide) ?_
            refine aw_icmp_ne (tgt := 138) d_M_milesOf_59 (by decide) (fun c59 => ?_) (fun c59 => ?_)
            · refine aw_iinc (v := nI ((j) + 1)) (L' := [some (.ref 56), some (.ref A), some (.int (nI fo)), some (.int (nI k)), some (.int (nI s)), some (.int (nI 1)), some (.int (nI (k % 10000))), some (.int (nI (2 * toI N (k % 10000 / 1000) s (j)))), some (.int (nI ((j) + 1))), none]) d_M_milesOf_138 rfl (nI_1 _) ⟨by decide, rfl⟩ rfl ?_
              refine aw_goto (tgt := 42) d_M_milesOf_141 (by decide) ?_
              first
                | (have e : toI N (k % 10000 / 1000) s (j + 1) = toI N (k % 10000 / 1000) s j + fi N j (k % 10000 / 1000) := by
                     unfold toI; rw [fb_sm_succ, if_pos (b_1.mp c59)]
                   rw [show v136 = nI (2 * toI N (k % 10000 / 1000) s (j + 1)) by rw [ev136, e, nI_add, pk_mul, nI_add]; congr 1; unfold fi; omega]
                   exact aw_drop 9 (ih (j + 1) (by omega)))
                | (have e : toI N (k % 10000 / 1000) s (j + 1) = toI N (k % 10000 / 1000) s j := by
                     unfold toI; rw [fb_sm_succ, if_neg (fun q => c59 (b_1.mpr q))]; rfl
                   rw [← e]
                   exact ih (j + 1) (by omega))
            · refine aw_iload d_M_milesOf_62 rfl ?_
              refine aw_sipush (v := nI 1000) d_M_milesOf_64 (by decide) ?_
              refine aw_idiv d_M_milesOf_67 (by decide) ?_
              rw [dv (by omega) (by decide) (by decide)]
              refine aw_istore (L' := [some (.ref 56), some (.ref A), some (.int (nI fo)), some (.int (nI k)), some (.int (nI s)), some (.int (nI 1)), some (.int (nI (k % 10000))), some (.int (nI (2 * toI N (k % 10000 / 1000) s (j)))), some (.int (nI (j))), some (.int (nI (k % 10000 / 1000)))]) d_M_milesOf_68 ⟨by decide, rfl⟩ rfl ?_
              refine aw_iload d_M_milesOf_70 rfl ?_
              refine aw_iload d_M_milesOf_72 rfl ?_
              refine aw_iconst (v := nI 1) d_M_milesOf_74 (by decide) ?_
              refine aw_icmp_ne (tgt := 118) d_M_milesOf_75 (by decide) (fun c75 => ?_) (fun c75 => ?_)
              · first | exact absurd c75 (by decide) | exact absurd (by decide) c75
              · refine aw_iconst (v := nI 2) d_M_milesOf_78 (by decide) ?_
                refine aw_aload_n d_M_milesOf_79 rfl ?_
                refine aw_get (k := 1) d_M_milesOf_80 cl_Model k_M_7 (by decide) hM rfl ?_
                refine aw_iload d_M_milesOf_83 rfl ?_
                refine aw_ialoadN d_M_milesOf_85 hx (by omega) (by decide) ?_
                refine aw_aload_n d_M_milesOf_86 rfl ?_
                refine aw_get (k := 9) d_M_milesOf_87 cl_Model k_M_31 (by decide) hM rfl ?_
                refine aw_iload d_M_milesOf_90 rfl ?_
                refine aw_ialoadN d_M_milesOf_92 hi (by omega) (by decide) ?_
                rw [ax j (by omega), ai _ h1]
                refine aw_s0i d_M_milesOf_93 k_M_136 ok_M_away rfl ⟨rfl, rfl⟩ (c_away (a := N_x N j) (b := N_ix N (k % 10000 / 1000)) (by have := (bx j (by omega)).1; omega) (by have := (bi _ h1).1; omega)) rfl rfl (Nat.le_of_ble_eq_true rfl) ?_
                refine aw_aload_n d_M_milesOf_96 rfl ?_
                refine aw_get (k := 2) d_M_milesOf_97 cl_Model k_M_13 (by decide) hM rfl ?_
                refine aw_iload d_M_milesOf_100 rfl ?_
                refine aw_ialoadN d_M_milesOf_102 hy (by omega) (by decide) ?_
                refine aw_aload_n d_M_milesOf_103 rfl ?_
                refine aw_get (k := 10) d_M_milesOf_104 cl_Model k_M_34 (by decide) hM rfl ?_
                refine aw_iload d_M_milesOf_107 rfl ?_
                refine aw_ialoadN d_M_milesOf_109 hj0 (by omega) (by decide) ?_
                rw [ay j (by omega), aj _ h1]
                refine aw_s0i d_M_milesOf_110 k_M_136 ok_M_away rfl ⟨rfl, rfl⟩ (c_away (a := N_y N j) (b := N_iy N (k % 10000 / 1000)) (by have := (bx j (by omega)).2.1; omega) (by have := (bi _ h1).2; omega)) rfl rfl (Nat.le_of_ble_eq_true rfl) ?_
                refine aw_iadd d_M_milesOf_113 ?_
                refine aw_imul d_M_milesOf_114 ?_
                refine aw_goto (tgt := 135) d_M_milesOf_115 (by decide) ?_
                refine aw_iadd d_M_milesOf_135 ?_
                refine aw_topi (fun v136 ev136 => ?_)
                refine aw_istore (L' := [some (.ref 56), some (.ref A), some (.int (nI fo)), some (.int (nI k)), some (.int (nI s)), some (.int (nI 1)), some (.int (nI (k % 10000))), some (.int v136), some (.int (nI (j))), some (.int (nI (k % 10000 / 1000)))]) d_M_milesOf_136 ⟨by decide, rfl⟩ rfl ?_
                refine aw_iinc (v := nI ((j) + 1)) (L' := [some (.ref 56), some (.ref A), some (.int (nI fo)), some (.int (nI k)), some (.int (nI s)), some (.int (nI 1)), some (.int (nI (k % 10000))), some (.int v136), some (.int (nI ((j) + 1))), some (.int (nI (k % 10000 / 1000)))]) d_M_milesOf_138 rfl (nI_1 _) ⟨by decide, rfl⟩ rfl ?_
                refine aw_goto (tgt := 42) d_M_milesOf_141 (by decide) ?_
                first
                  | (have e : toI N (k % 10000 / 1000) s (j + 1) = toI N (k % 10000 / 1000) s j + fi N j (k % 10000 / 1000) := by
                       unfold toI; rw [fb_sm_succ, if_pos (b_1.mp c59)]
                     rw [show v136 = nI (2 * toI N (k % 10000 / 1000) s (j + 1)) by rw [ev136, e, nI_add, pk_mul, nI_add]; congr 1; unfold fi; omega]
                     exact aw_drop 9 (ih (j + 1) (by omega)))
                  | (have e : toI N (k % 10000 / 1000) s (j + 1) = toI N (k % 10000 / 1000) s j := by
                       unfold toI; rw [fb_sm_succ, if_neg (fun q => c59 (b_1.mpr q))]; rfl
                     rw [← e]
                     exact ih (j + 1) (by omega))
      exact loop1 (N_n N) 0 (by omega)
    · rw [k0]
      have loop2 : ∀ kf j, j + kf = N_n N → ab_W Y_M_milesOf none l (fun r m2 h2 => r = some (.int (nI (mil N t k s))) ∧ m2 = m ∧ h2 = h) 42 [some (.ref 56), some (.ref A), some (.int (nI fo)), some (.int (nI k)), some (.int (nI s)), some (.int (nI 2)), some (.int (nI (k % 10000))), some (.int (nI (N_ra N * ro N t s (j)))), some (.int (nI (j))), none] [] m (h) (0, 0) := by
        intro kf
        induction kf with
        | zero =>
          intro j hj 
          have hjn : N_n N = j := by omega
          subst hjn
          refine aw_iload d_M_milesOf_42 rfl ?_
          refine aw_aload_n d_M_milesOf_44 rfl ?_
          refine aw_get (k := 0) d_M_milesOf_45 cl_Model k_M_118 (by decide) hM rfl ?_
          refine aw_icmp_ge (tgt := 144) d_M_milesOf_48 (by decide) (fun c48 => ?_) (fun c48 => ?_)
          · refine aw_iload d_M_milesOf_144 rfl ?_
            refine aw_ireturn d_M_milesOf_146 rfl rfl ?_
            exact ⟨by unfold mil; rw [if_neg (by omega), if_neg (by omega), ro_ffo (h2 k0)], rfl, rfl⟩
          · exact absurd (Int32.le_refl _) c48
        | succ kf ih =>
          intro j hj 
          refine aw_iload d_M_milesOf_42 rfl ?_
          refine aw_aload_n d_M_milesOf_44 rfl ?_
          refine aw_get (k := 0) d_M_milesOf_45 cl_Model k_M_118 (by decide) hM rfl ?_
          refine aw_icmp_ge (tgt := 144) d_M_milesOf_48 (by decide) (fun c48 => ?_) (fun c48 => ?_)
          · exact absurd c48 (nI_ge (by omega) (by omega))
          · refine aw_iload d_M_milesOf_51 rfl ?_
            refine aw_iload d_M_milesOf_53 rfl ?_
            refine aw_ishr d_M_milesOf_55 ?_
            refine aw_iconst (v := nI 1) d_M_milesOf_56 (by decide) ?_
            refine aw_iand d_M_milesOf_57 ?_
            rw [b_at (by omega) (by omega)]
            refine aw_iconst (v := nI 1) d_M_milesOf_58 (by decide) ?_
            refine aw_icmp_ne (tgt := 138) d_M_milesOf_59 (by decide) (fun c59 => ?_) (fun c59 => ?_)
            · refine aw_iinc (v := nI ((j) + 1)) (L' := [some (.ref 56), some (.ref A), some (.int (nI fo)), some (.int (nI k)), some (.int (nI s)), some (.int (nI 2)), some (.int (nI (k % 10000))), some (.int (nI (N_ra N * ro N t s (j)))), some (.int (nI ((j) + 1))), none]) d_M_milesOf_138 rfl (nI_1 _) ⟨by decide, rfl⟩ rfl ?_
              refine aw_goto (tgt := 42) d_M_milesOf_141 (by decide) ?_
              first
                | (have e : ro N t s (j + 1) = ro N t s j + fr N j (t j) := by
                     unfold ro; rw [fb_sm_succ, if_pos (b_1.mp c59)]
                   rw [show v136 = nI (N_ra N * ro N t s (j + 1)) by rw [e, ev136, pk_mul, nI_add, Nat.mul_add]]
                   exact aw_drop 9 (ih (j + 1) (by omega)))
                | (have e : ro N t s (j + 1) = ro N t s j := by
                     unfold ro; rw [fb_sm_succ, if_neg (fun q => c59 (b_1.mpr q))]; rfl
                   rw [← e]
                   exact ih (j + 1) (by omega))
            · refine aw_iload d_M_milesOf_62 rfl ?_
              refine aw_sipush (v := nI 1000) d_M_milesOf_64 (by decide) ?_
              refine aw_idiv d_M_milesOf_67 (by decide) ?_
              rw [dv (by omega) (by decide) (by decide)]
              refine aw_istore (L' := [some (.ref 56), some (.ref A), some (.int (nI fo)), some (.int (nI k)), some (.int (nI s)), some (.int (nI 2)), some (.int (nI (k % 10000))), some (.int (nI (N_ra N * ro N t s (j)))), some (.int (nI (j))), some (.int (nI (k % 10000 / 1000)))]) d_M_milesOf_68 ⟨by decide, rfl⟩ rfl ?_
              refine aw_iload d_M_milesOf_70 rfl ?_
              refine aw_iload d_M_milesOf_72 rfl ?_
              refine aw_iconst (v := nI 1) d_M_milesOf_74 (by decide) ?_
              refine aw_icmp_ne (tgt := 118) d_M_milesOf_75 (by decide) (fun c75 => ?_) (fun c75 => ?_)
              · refine aw_aload_n d_M_milesOf_118 rfl ?_
                refine aw_get (k := 11) d_M_milesOf_119 cl_Model k_M_37 (by decide) hM rfl ?_
                refine aw_aload_n d_M_milesOf_122 rfl ?_
                refine aw_iload d_M_milesOf_123 rfl ?_
                refine aw_aload_n d_M_milesOf_125 rfl ?_
                refine aw_iload_n d_M_milesOf_126 rfl ?_
                refine aw_iload d_M_milesOf_127 rfl ?_
                refine aw_iadd d_M_milesOf_129 ?_
                rw [nI_add]
                refine aw_ialoadN d_M_milesOf_130 hA (by omega) hN ?_
                rw [hg j (by omega)]
                refine aw_v0i (a := 56) d_M_milesOf_131 k_M_196 ok_M_far rfl ⟨rfl, rfl⟩ cl_Model hM (c_Mfar hM hP ok (show j < 6 by omega) (ht.1 j (by omega))) rfl rfl (Nat.le_of_ble_eq_true rfl) ?_
                refine aw_imul d_M_milesOf_134 ?_
                refine aw_iadd d_M_milesOf_135 ?_
                refine aw_topi (fun v136 ev136 => ?_)
                refine aw_istore (L' := [some (.ref 56), some (.ref A), some (.int (nI fo)), some (.int (nI k)), some (.int (nI s)), some (.int (nI 2)), some (.int (nI (k % 10000))), some (.int v136), some (.int (nI (j))), some (.int (nI (k % 10000 / 1000)))]) d_M_milesOf_136 ⟨by decide, rfl⟩ rfl ?_
                refine aw_iinc (v := nI ((j) + 1)) (L' := [some (.ref 56), some (.ref A), some (.int (nI fo)), some (.int (nI k)), some (.int (nI s)), some (.int (nI 2)), some (.int (nI (k % 10000))), some (.int v136), some (.int (nI ((j) + 1))), some (.int (nI (k % 10000 / 1000)))]) d_M_milesOf_138 rfl (nI_1 _) ⟨by decide, rfl⟩ rfl ?_
                refine aw_goto (tgt := 42) d_M_milesOf_141 (by decide) ?_
                first
                  | (have e : ro N t s (j + 1) = ro N t s j + fr N j (t j) := by
                       unfold ro; rw [fb_sm_succ, if_pos (b_1.mp c59)]
                     rw [show v136 = nI (N_ra N * ro N t s (j + 1)) by rw [e, ev136, pk_mul, nI_add, Nat.mul_add]]
                     exact aw_drop 9 (ih (j + 1) (by omega)))
                  | (have e : ro N t s (j + 1) = ro N t s j := by
                       unfold ro; rw [fb_sm_succ, if_neg (fun q => c59 (b_1.mpr q))]; rfl
                     rw [← e]
                     exact ih (j + 1) (by omega))
              · first | exact absurd c75 (by decide) | exact absurd (by decide) c75
      exact loop2 (N_n N) 0 (by omega)
  · have k0 : k / 10000 = 0 := (nI_eq (b := 0) (by omega) (by decide)).mp c16
    refine aw_iconst (v := nI 2) d_M_milesOf_19 (by decide) ?_
    refine aw_aload_n d_M_milesOf_20 rfl ?_
    refine aw_iload d_M_milesOf_21 rfl ?_
    refine aw_bipush (v := nI 100) d_M_milesOf_23 (by decide) ?_
    refine aw_idiv d_M_milesOf_25 (by decide) ?_
    rw [dv (by omega) (by decide) (by decide)]
    refine aw_iload d_M_milesOf_26 rfl ?_
    refine aw_bipush (v := nI 100) d_M_milesOf_28 (by decide) ?_
    refine aw_irem d_M_milesOf_30 (by decide) ?_
    rw [rm (by omega) (by decide) (by decide)]
    refine aw_v0i (a := 56) d_M_milesOf_31 k_M_196 ok_M_far rfl ⟨rfl, rfl⟩ cl_Model hM (c_Mfar hM hP ok (h0 k0).1 (h0 k0).2) rfl rfl (Nat.le_of_ble_eq_true rfl) ?_
    refine aw_imul d_M_milesOf_34 ?_
    refine aw_ireturn d_M_milesOf_35 rfl rfl ?_
    exact ⟨by unfold mil; rw [if_pos k0, pk_mul], rfl, rfl⟩
theorem c_meets {m : Nat} {h : ab_H} {N : NS} {me mi tab ve la : Int32} {tl : Nat} {at_ wr : Int32} {fe : Nat} {kp : Bool} (hM : h 56 = oM (N_n N) (N_ns N) (N_ra N) (N_se N) me mi tab ve la tl at_ wr fe kp) (ok : N_ok N) {A NN fo : Nat} {g : Nat → Int32} (hA : h A = .inl (NN, g)) (hN : NN < 2 ^ 31) (hr : fo + N_n N ≤ NN) {t : Nat → Nat} (ht : Pm t) (hf : ∀ k, N_n N ≤ k → t k = k) (hg : ∀ k, k < N_n N → g (fo + k) = nI (t k)) {B : Nat} {gb : Nat → Int32} (hB : h B = .inl (6, gb)) (hAB : A ≠ B) (hB5 : B ≠ 56) {k : Nat} (hk : k < 2 ^ 31) {s : Nat} (hs2 : s < 2 ^ N_n N) (h0 : k / 10000 = 0 → k / 100 < N_n N ∧ k % 100 < N_n N) : ab_C Y_M_meets [.ref 56, .ref A, .int (nI fo), .int (nI k), .int (nI s), .ref B, .int (nI 0)] m h (fun r m2 h2 => r = none ∧ m2 = m ∧ ∃ g2 : Nat → Int32, h2 = ab_set h B (.inl (6, g2)) ∧ ∀ j, j < N_n N → g2 j = nI (aft t k s j)) := by
  refine ab_C.of (L := [some (.ref 56), some (.ref A), some (.int (nI fo)), some (.int (nI k)), some (.int (nI s)), some (.ref B), some (.int (nI 0)), none, none, none, none, none, none]) rfl rfl (Nat.le_of_ble_eq_true rfl) (fun l => ?_)
  have hn6 : N_n N ≤ 6 := ok.1
  have hs := two_le6 hn6 hs2
  have hc := cot_lt ht s (N_n N) hn6
  have hsc : pop s = pop (cot t s (N_n N)) := by
    have := cot_pop ht s
    rw [show 6 = N_n N + (6 - N_n N) by omega, cot_n hs2] at this
    exact this.symm
  have cont : ∀ g1 : Nat → Int32, (∀ i, i < N_n N → g1 i = nI (t i)) → ab_W Y_M_meets none l (fun r m2 h2 => r = none ∧ m2 = m ∧ ∃ g2 : Nat → Int32, h2 = ab_set h B (.inl (6, g2)) ∧ ∀ j, j < N_n N → g2 j = nI (aft t k s j)) 39 [some (.ref 56), some (.ref A), some (.int (nI fo)), some (.int (nI k)), some (.int (nI s)), some (.ref B), some (.int (nI 0)), some (.int (nI (k / 10000))), some (.int (nI (N_n N))), none, none, none, none] [] m (ab_set h B (.inl (6, g1))) (0, 0) := by
    intro g1 e1
    refine aw_iload d_M_meets_39 rfl ?_
    refine aw_if_ne (tgt := 85) d_M_meets_41 (by decide) (fun c41 => ?_) (fun c41 => ?_)
    · refine aw_iconst (v := nI 0) d_M_meets_85 (by decide) ?_
      refine aw_istore (L' := [some (.ref 56), some (.ref A), some (.int (nI fo)), some (.int (nI k)), some (.int (nI s)), some (.ref B), some (.int (nI 0)), some (.int (nI (k / 10000))), some (.int (nI 0)), none, none, none, none]) d_M_meets_86 ⟨by decide, rfl⟩ rfl ?_
      refine aw_iconst (v := nI 0) d_M_meets_88 (by decide) ?_
      refine aw_istore (L' := [some (.ref 56), some (.ref A), some (.int (nI fo)), some (.int (nI k)), some (.int (nI s)), some (.ref B), some (.int (nI 0)), some (.int (nI (k / 10000))), some (.int (nI 0)), some (.int (nI 0)), none, none, none]) d_M_meets_89 ⟨by decide, rfl⟩ rfl ?_
      have k0 : ¬ k / 10000 = 0 := fun q => c41 (by rw [q]; rfl)
      have loop3 : ∀ kf j (g2 : Nat → Int32), j + kf = N_n N → (∀ i, i < N_n N → g2 i = nI (stq t s (cot t s (N_n N)) j i)) → ab_W Y_M_meets none l (fun r m2 h2 => r = none ∧ m2 = m ∧ ∃ g2 : Nat → Int32, h2 = ab_set h B (.inl (6, g2)) ∧ ∀ j, j < N_n N → g2 j = nI (aft t k s j)) 146 [some (.ref 56), some (.ref A), some (.int (nI fo)), some (.int (nI k)), some (.int (nI s)), some (.ref B), some (.int (nI 0)), some (.int (nI (k / 10000))), some (.int (nI (cot t s (N_n N)))), some (.int (nI (stl s (cot t s (N_n N)) (j)))), some (.int (nI (j))), none, none] [] m (ab_set h B (.inl (6, g2))) (0, 0) := by
        intro kf
        induction kf with
        | zero =>
          intro j g2 hj e
          have hjn : N_n N = j := by omega
          subst hjn
          refine aw_iload d_M_meets_146 rfl ?_
          refine aw_aload_n d_M_meets_148 rfl ?_
          refine aw_get (k := 0) d_M_meets_149 cl_Model k_M_118 (by decide) ((ab_set_ne (Ne.symm hB5)).trans hM) rfl ?_
          refine aw_icmp_ge (tgt := 236) d_M_meets_152 (by decide) (fun c152 => ?_) (fun c152 => ?_)
          · refine aw_return d_M_meets_236 rfl ?_
            refine ⟨rfl, rfl, g2, rfl, fun i hi => ?_⟩
            rw [e i hi]
            unfold aft stt
            rw [if_neg k0, show 6 = N_n N + (6 - N_n N) by omega, cot_n hs2]
            unfold stq
            by_cases q : s / 2 ^ i % 2 = 1
            · rw [if_pos ⟨hi, q⟩, if_pos ⟨by omega, q⟩]
            · rw [if_neg (fun z => q z.2), if_neg (fun z => q z.2)]
          · exact absurd (Int32.le_refl _) c152
        | succ kf ih =>
          intro j g2 hj e
          refine aw_iload d_M_meets_146 rfl ?_
          refine aw_aload_n d_M_meets_148 rfl ?_
          refine aw_get (k := 0) d_M_meets_149 cl_Model k_M_118 (by decide) ((ab_set_ne (Ne.symm hB5)).trans hM) rfl ?_
          refine aw_icmp_ge (tgt := 236) d_M_meets_152 (by decide) (fun c152 => ?_) (fun c152 => ?_)
          · exact absurd c152 (nI_ge (by omega) (by omega))
          · refine aw_iload d_M_meets_155 rfl ?_
            refine aw_iload d_M_meets_157 rfl ?_
            refine aw_ishr d_M_meets_159 ?_
            refine aw_iconst (v := nI 1) d_M_meets_160 (by decide) ?_
            refine aw_iand d_M_meets_161 ?_
            rw [b_at (by omega) (by omega)]
            refine aw_iconst (v := nI 1) d_M_meets_162 (by decide) ?_
            refine aw_icmp_ne (tgt := 230) d_M_meets_163 (by decide) (fun c163 => ?_) (fun c163 => ?_)
            · refine aw_iinc (v := nI ((j) + 1)) (L' := [some (.ref 56), some (.ref A), some (.int (nI fo)), some (.int (nI k)), some (.int (nI s)), some (.ref B), some (.int (nI 0)), some (.int (nI (k / 10000))), some (.int (nI (cot t s (N_n N)))), some (.int (nI (stl s (cot t s (N_n N)) (j)))), some (.int (nI ((j) + 1))), none, none]) d_M_meets_230 rfl (nI_1 _) ⟨by decide, rfl⟩ rfl ?_
              refine aw_goto (tgt := 146) d_M_meets_233 (by decide) ?_
              first
                | (rw [show stl s (cot t s (N_n N)) j = stl s (cot t s (N_n N)) (j + 1) from (if_neg (fun z => c163 (b_1.mpr z.1))).symm]
                   refine ih (j + 1) g2 (by omega) ?_
                   rw [← stq_n (fun z => c163 (b_1.mpr z))]
                   exact e)
                | (have q1 := b_1.mp c163
                   have q2 := b_1.mp c174
                   have e1 : sf s (cot t s (N_n N)) j = j := if_pos q2
                   have e2 : stl s (cot t s (N_n N)) (j + 1) = stl s (cot t s (N_n N)) j := if_neg (fun z => z.2 q2)
                   have e3 : v218 = nI (stl s (cot t s (N_n N)) (j + 1)) := by rw [ev218, e2, fa_and, Nat.and_self]
                   rw [ab_set_set, e3]
                   refine aw_drop 11 (aw_drop 12 (ih (j + 1) _ (by omega) ?_))
                   rw [← stq_y q1, e1]
                   intro i hi
                   by_cases z : i = j
                   · subst z; rw [pk_us, ud_s]
                   · rw [pk_un z, ud_n z]; exact e i hi)
                | (have q1 := b_1.mp c163
                   have q2 : ¬ cot t s (N_n N) / 2 ^ j % 2 = 1 := fun z => c174 (b_1.mpr z)
                   have e1 : sf s (cot t s (N_n N)) j = tz (stl s (cot t s (N_n N)) j) := if_neg q2
                   have e2 : stl s (cot t s (N_n N)) (j + 1) = stl s (cot t s (N_n N)) j &&& (stl s (cot t s (N_n N)) j - 1) := if_pos ⟨q1, q2⟩
                   have e3 : v218 = nI (stl s (cot t s (N_n N)) (j + 1)) := by
                     rw [ev218, e2]
                     rcases pop_s _ (stl_lt hc j) with q | q
                     · exact absurd q.1 z0
                     · exact q.2.2
                   rw [ab_set_set, e3]
                   refine aw_drop 11 (aw_drop 12 (ih (j + 1) _ (by omega) ?_))
                   rw [← stq_y q1, e1]
                   intro i hi
                   by_cases z : i = j
                   · subst z; rw [pk_us, ud_s]
                   · rw [pk_un z, ud_n z]; exact e i hi)
            · refine aw_iload d_M_meets_166 rfl ?_
              refine aw_iload d_M_meets_168 rfl ?_
              refine aw_ishr d_M_meets_170 ?_
              refine aw_iconst (v := nI 1) d_M_meets_171 (by decide) ?_
              refine aw_iand d_M_meets_172 ?_
              rw [b_at (by omega) (by omega)]
              refine aw_iconst (v := nI 1) d_M_meets_173 (by decide) ?_
              refine aw_icmp_ne (tgt := 181) d_M_meets_174 (by decide) (fun c174 => ?_) (fun c174 => ?_)
              · refine aw_iconst (v := nI 0) d_M_meets_181 (by decide) ?_
                refine aw_istore (L' := [some (.ref 56), some (.ref A), some (.int (nI fo)), some (.int (nI k)), some (.int (nI s)), some (.ref B), some (.int (nI 0)), some (.int (nI (k / 10000))), some (.int (nI (cot t s (N_n N)))), some (.int (nI (stl s (cot t s (N_n N)) (j)))), some (.int (nI (j))), some (.int (nI 0)), none]) d_M_meets_182 ⟨by decide, rfl⟩ rfl ?_
                refine aw_iload d_M_meets_184 rfl ?_
                refine aw_if_eq (tgt := 194) d_M_meets_186 (by decide) (fun c186 => ?_) (fun c186 => ?_)
                · refine aw_iload d_M_meets_194 rfl ?_
                  have z0 : stl s (cot t s (N_n N)) j ≠ 0 := ((sf_t hs hc hsc (show j < 6 by omega) (b_1.mp c163)).2.2.1).resolve_left (fun z => c174 (b_1.mpr z))
                  refine aw_s0i d_M_meets_196 k_M_199 ok_M_lowest rfl ⟨rfl, rfl⟩ (c_lowest (stl_lt hc j) z0) rfl rfl (Nat.le_of_ble_eq_true rfl) ?_
                  refine aw_istore (L' := [some (.ref 56), some (.ref A), some (.int (nI fo)), some (.int (nI k)), some (.int (nI s)), some (.ref B), some (.int (nI 0)), some (.int (nI (k / 10000))), some (.int (nI (cot t s (N_n N)))), some (.int (nI (stl s (cot t s (N_n N)) (j)))), some (.int (nI (j))), some (.int (nI 0)), some (.int (nI (tz (stl s (cot t s (N_n N)) j))))]) d_M_meets_199 ⟨by decide, rfl⟩ rfl ?_
                  refine aw_iload d_M_meets_201 rfl ?_
                  refine aw_iload d_M_meets_203 rfl ?_
                  refine aw_if_eq (tgt := 213) d_M_meets_205 (by decide) (fun c205 => ?_) (fun c205 => ?_)
                  · refine aw_iload d_M_meets_213 rfl ?_
                    refine aw_iconst (v := nI 1) d_M_meets_215 (by decide) ?_
                    refine aw_isub d_M_meets_216 ?_
                    refine aw_iand d_M_meets_217 ?_
                    refine aw_topi (fun v218 ev218 => ?_)
                    refine aw_istore (L' := [some (.ref 56), some (.ref A), some (.int (nI fo)), some (.int (nI k)), some (.int (nI s)), some (.ref B), some (.int (nI 0)), some (.int (nI (k / 10000))), some (.int (nI (cot t s (N_n N)))), some (.int v218), some (.int (nI (j))), some (.int (nI 0)), some (.int (nI (tz (stl s (cot t s (N_n N)) j))))]) d_M_meets_218 ⟨by decide, rfl⟩ rfl ?_
                    refine aw_aload d_M_meets_220 rfl ?_
                    refine aw_iload d_M_meets_222 rfl ?_
                    refine aw_iload d_M_meets_224 rfl ?_
                    refine aw_iadd d_M_meets_226 ?_
                    rw [nI_add, Nat.zero_add]
                    refine aw_iload d_M_meets_227 rfl ?_
                    refine aw_iastoreN d_M_meets_229 (ab_set_self h B _) (by omega) (by decide) ?_
                    refine aw_iinc (v := nI ((j) + 1)) (L' := [some (.ref 56), some (.ref A), some (.int (nI fo)), some (.int (nI k)), some (.int (nI s)), some (.ref B), some (.int (nI 0)), some (.int (nI (k / 10000))), some (.int (nI (cot t s (N_n N)))), some (.int v218), some (.int (nI ((j) + 1))), some (.int (nI 0)), some (.int (nI (tz (stl s (cot t s (N_n N)) j))))]) d_M_meets_230 rfl (nI_1 _) ⟨by decide, rfl⟩ rfl ?_
                    refine aw_goto (tgt := 146) d_M_meets_233 (by decide) ?_
                    first
                      | (rw [show stl s (cot t s (N_n N)) j = stl s (cot t s (N_n N)) (j + 1) from (if_neg (fun z => c163 (b_1.mpr z.1))).symm]
                         refine ih (j + 1) g2 (by omega) ?_
                         rw [← stq_n (fun z => c163 (b_1.mpr z))]
                         exact e)
                      | (have q1 := b_1.mp c163
                         have q2 := b_1.mp c174
                         have e1 : sf s (cot t s (N_n N)) j = j := if_pos q2
                         have e2 : stl s (cot t s (N_n N)) (j + 1) = stl s (cot t s (N_n N)) j := if_neg (fun z => z.2 q2)
                         have e3 : v218 = nI (stl s (cot t s (N_n N)) (j + 1)) := by rw [ev218, e2, fa_and, Nat.and_self]
                         rw [ab_set_set, e3]
                         refine aw_drop 11 (aw_drop 12 (ih (j + 1) _ (by omega) ?_))
                         rw [← stq_y q1, e1]
                         intro i hi
                         by_cases z : i = j
                         · subst z; rw [pk_us, ud_s]
                         · rw [pk_un z, ud_n z]; exact e i hi)
                      | (have q1 := b_1.mp c163
                         have q2 : ¬ cot t s (N_n N) / 2 ^ j % 2 = 1 := fun z => c174 (b_1.mpr z)
                         have e1 : sf s (cot t s (N_n N)) j = tz (stl s (cot t s (N_n N)) j) := if_neg q2
                         have e2 : stl s (cot t s (N_n N)) (j + 1) = stl s (cot t s (N_n N)) j &&& (stl s (cot t s (N_n N)) j - 1) := if_pos ⟨q1, q2⟩
                         have e3 : v218 = nI (stl s (cot t s (N_n N)) (j + 1)) := by
                           rw [ev218, e2]
                           rcases pop_s _ (stl_lt hc j) with q | q
                           · exact absurd q.1 z0
                           · exact q.2.2
                         rw [ab_set_set, e3]
                         refine aw_drop 11 (aw_drop 12 (ih (j + 1) _ (by omega) ?_))
                         rw [← stq_y q1, e1]
                         intro i hi
                         by_cases z : i = j
                         · subst z; rw [pk_us, ud_s]
                         · rw [pk_un z, ud_n z]; exact e i hi)
                  · first | exact absurd c205 (by decide) | exact absurd (by decide) c205
                · first | exact absurd c186 (by decide) | exact absurd (by decide) c186
              · refine aw_iconst (v := nI 1) d_M_meets_177 (by decide) ?_
                refine aw_goto (tgt := 182) d_M_meets_178 (by decide) ?_
                refine aw_istore (L' := [some (.ref 56), some (.ref A), some (.int (nI fo)), some (.int (nI k)), some (.int (nI s)), some (.ref B), some (.int (nI 0)), some (.int (nI (k / 10000))), some (.int (nI (cot t s (N_n N)))), some (.int (nI (stl s (cot t s (N_n N)) (j)))), some (.int (nI (j))), some (.int (nI 1)), none]) d_M_meets_182 ⟨by decide, rfl⟩ rfl ?_
                refine aw_iload d_M_meets_184 rfl ?_
                refine aw_if_eq (tgt := 194) d_M_meets_186 (by decide) (fun c186 => ?_) (fun c186 => ?_)
                · first | exact absurd c186 (by decide) | exact absurd (by decide) c186
                · refine aw_iload d_M_meets_189 rfl ?_
                  refine aw_goto (tgt := 199) d_M_meets_191 (by decide) ?_
                  refine aw_istore (L' := [some (.ref 56), some (.ref A), some (.int (nI fo)), some (.int (nI k)), some (.int (nI s)), some (.ref B), some (.int (nI 0)), some (.int (nI (k / 10000))), some (.int (nI (cot t s (N_n N)))), some (.int (nI (stl s (cot t s (N_n N)) (j)))), some (.int (nI (j))), some (.int (nI 1)), some (.int (nI (j)))]) d_M_meets_199 ⟨by decide, rfl⟩ rfl ?_
                  refine aw_iload d_M_meets_201 rfl ?_
                  refine aw_iload d_M_meets_203 rfl ?_
                  refine aw_if_eq (tgt := 213) d_M_meets_205 (by decide) (fun c205 => ?_) (fun c205 => ?_)
                  · first | exact absurd c205 (by decide) | exact absurd (by decide) c205
                  · refine aw_iload d_M_meets_208 rfl ?_
                    refine aw_goto (tgt := 217) d_M_meets_210 (by decide) ?_
                    refine aw_iand d_M_meets_217 ?_
                    refine aw_topi (fun v218 ev218 => ?_)
                    refine aw_istore (L' := [some (.ref 56), some (.ref A), some (.int (nI fo)), some (.int (nI k)), some (.int (nI s)), some (.ref B), some (.int (nI 0)), some (.int (nI (k / 10000))), some (.int (nI (cot t s (N_n N)))), some (.int v218), some (.int (nI (j))), some (.int (nI 1)), some (.int (nI (j)))]) d_M_meets_218 ⟨by decide, rfl⟩ rfl ?_
                    refine aw_aload d_M_meets_220 rfl ?_
                    refine aw_iload d_M_meets_222 rfl ?_
                    refine aw_iload d_M_meets_224 rfl ?_
                    refine aw_iadd d_M_meets_226 ?_
                    rw [nI_add, Nat.zero_add]
                    refine aw_iload d_M_meets_227 rfl ?_
                    refine aw_iastoreN d_M_meets_229 (ab_set_self h B _) (by omega) (by decide) ?_
                    refine aw_iinc (v := nI ((j) + 1)) (L' := [some (.ref 56), some (.ref A), some (.int (nI fo)), some (.int (nI k)), some (.int (nI s)), some (.ref B), some (.int (nI 0)), some (.int (nI (k / 10000))), some (.int (nI (cot t s (N_n N)))), some (.int v218), some (.int (nI ((j) + 1))), some (.int (nI 1)), some (.int (nI (j)))]) d_M_meets_230 rfl (nI_1 _) ⟨by decide, rfl⟩ rfl ?_
                    refine aw_goto (tgt := 146) d_M_meets_233 (by decide) ?_
                    first
                      | (rw [show stl s (cot t s (N_n N)) j = stl s (cot t s (N_n N)) (j + 1) from (if_neg (fun z => c163 (b_1.mpr z.1))).symm]
                         refine ih (j + 1) g2 (by omega) ?_
                         rw [← stq_n (fun z => c163 (b_1.mpr z))]
                         exact e)
                      | (have q1 := b_1.mp c163
                         have q2 := b_1.mp c174
                         have e1 : sf s (cot t s (N_n N)) j = j := if_pos q2
                         have e2 : stl s (cot t s (N_n N)) (j + 1) = stl s (cot t s (N_n N)) j := if_neg (fun z => z.2 q2)
                         have e3 : v218 = nI (stl s (cot t s (N_n N)) (j + 1)) := by rw [ev218, e2, fa_and, Nat.and_self]
                         rw [ab_set_set, e3]
                         refine aw_drop 11 (aw_drop 12 (ih (j + 1) _ (by omega) ?_))
                         rw [← stq_y q1, e1]
                         intro i hi
                         by_cases z : i = j
                         · subst z; rw [pk_us, ud_s]
                         · rw [pk_un z, ud_n z]; exact e i hi)
                      | (have q1 := b_1.mp c163
                         have q2 : ¬ cot t s (N_n N) / 2 ^ j % 2 = 1 := fun z => c174 (b_1.mpr z)
                         have e1 : sf s (cot t s (N_n N)) j = tz (stl s (cot t s (N_n N)) j) := if_neg q2
                         have e2 : stl s (cot t s (N_n N)) (j + 1) = stl s (cot t s (N_n N)) j &&& (stl s (cot t s (N_n N)) j - 1) := if_pos ⟨q1, q2⟩
                         have e3 : v218 = nI (stl s (cot t s (N_n N)) (j + 1)) := by
                           rw [ev218, e2]
                           rcases pop_s _ (stl_lt hc j) with q | q
                           · exact absurd q.1 z0
                           · exact q.2.2
                         rw [ab_set_set, e3]
                         refine aw_drop 11 (aw_drop 12 (ih (j + 1) _ (by omega) ?_))
                         rw [← stq_y q1, e1]
                         intro i hi
                         by_cases z : i = j
                         · subst z; rw [pk_us, ud_s]
                         · rw [pk_un z, ud_n z]; exact e i hi)
      have loop2 : ∀ kf j, j + kf = N_n N → ab_W Y_M_meets none l (fun r m2 h2 => r = none ∧ m2 = m ∧ ∃ g2 : Nat → Int32, h2 = ab_set h B (.inl (6, g2)) ∧ ∀ j, j < N_n N → g2 j = nI (aft t k s j)) 91 [some (.ref 56), some (.ref A), some (.int (nI fo)), some (.int (nI k)), some (.int (nI s)), some (.ref B), some (.int (nI 0)), some (.int (nI (k / 10000))), some (.int (nI (cot t s (j)))), some (.int (nI (j))), none, none, none] [] m (ab_set h B (.inl (6, g1))) (0, 0) := by
        intro kf
        induction kf with
        | zero =>
          intro j hj 
          have hjn : N_n N = j := by omega
          subst hjn
          refine aw_iload d_M_meets_91 rfl ?_
          refine aw_aload_n d_M_meets_93 rfl ?_
          refine aw_get (k := 0) d_M_meets_94 cl_Model k_M_118 (by decide) ((ab_set_ne (Ne.symm hB5)).trans hM) rfl ?_
          refine aw_icmp_ge (tgt := 134) d_M_meets_97 (by decide) (fun c97 => ?_) (fun c97 => ?_)
          · refine aw_iload d_M_meets_134 rfl ?_
            refine aw_iload d_M_meets_136 rfl ?_
            refine aw_iconst (v := (-1)) d_M_meets_138 (by decide) ?_
            refine aw_ixor d_M_meets_139 ?_
            refine aw_iand d_M_meets_140 ?_
            rw [b_andn _ hc _ hs]
            refine aw_istore (L' := [some (.ref 56), some (.ref A), some (.int (nI fo)), some (.int (nI k)), some (.int (nI s)), some (.ref B), some (.int (nI 0)), some (.int (nI (k / 10000))), some (.int (nI (cot t s (N_n N)))), some (.int (nI (stl s (cot t s (N_n N)) 0))), none, none, none]) d_M_meets_141 ⟨by decide, rfl⟩ rfl ?_
            refine aw_iconst (v := nI 0) d_M_meets_143 (by decide) ?_
            refine aw_istore (L' := [some (.ref 56), some (.ref A), some (.int (nI fo)), some (.int (nI k)), some (.int (nI s)), some (.ref B), some (.int (nI 0)), some (.int (nI (k / 10000))), some (.int (nI (cot t s (N_n N)))), some (.int (nI (stl s (cot t s (N_n N)) 0))), some (.int (nI 0)), none, none]) d_M_meets_144 ⟨by decide, rfl⟩ rfl ?_
            exact loop3 (N_n N) 0 g1 (by omega) (by rw [stq_0]; exact e1)
          · exact absurd (Int32.le_refl _) c97
        | succ kf ih =>
          intro j hj 
          refine aw_iload d_M_meets_91 rfl ?_
          refine aw_aload_n d_M_meets_93 rfl ?_
          refine aw_get (k := 0) d_M_meets_94 cl_Model k_M_118 (by decide) ((ab_set_ne (Ne.symm hB5)).trans hM) rfl ?_
          refine aw_icmp_ge (tgt := 134) d_M_meets_97 (by decide) (fun c97 => ?_) (fun c97 => ?_)
          · exact absurd c97 (nI_ge (by omega) (by omega))
          · refine aw_iload d_M_meets_100 rfl ?_
            refine aw_iload d_M_meets_102 rfl ?_
            refine aw_iload d_M_meets_104 rfl ?_
            refine aw_ishr d_M_meets_106 ?_
            refine aw_iconst (v := nI 1) d_M_meets_107 (by decide) ?_
            refine aw_iand d_M_meets_108 ?_
            rw [b_at (by omega) (by omega)]
            refine aw_iconst (v := nI 1) d_M_meets_109 (by decide) ?_
            refine aw_icmp_ne (tgt := 124) d_M_meets_110 (by decide) (fun c110 => ?_) (fun c110 => ?_)
            · refine aw_iconst (v := nI 0) d_M_meets_124 (by decide) ?_
              refine aw_ior d_M_meets_125 ?_
              refine aw_topi (fun v126 ev126 => ?_)
              refine aw_istore (L' := [some (.ref 56), some (.ref A), some (.int (nI fo)), some (.int (nI k)), some (.int (nI s)), some (.ref B), some (.int (nI 0)), some (.int (nI (k / 10000))), some (.int v126), some (.int (nI (j))), none, none, none]) d_M_meets_126 ⟨by decide, rfl⟩ rfl ?_
              refine aw_iinc (v := nI ((j) + 1)) (L' := [some (.ref 56), some (.ref A), some (.int (nI fo)), some (.int (nI k)), some (.int (nI s)), some (.ref B), some (.int (nI 0)), some (.int (nI (k / 10000))), some (.int v126), some (.int (nI ((j) + 1))), none, none, none]) d_M_meets_128 rfl (nI_1 _) ⟨by decide, rfl⟩ rfl ?_
              refine aw_goto (tgt := 91) d_M_meets_131 (by decide) ?_
              first
                | (rw [show v126 = nI (cot t s (j + 1)) by rw [ev126, hg j (by omega), b_one (Nat.lt_trans (ht.1 j (by omega)) (by decide)), fa_or]; exact congrArg nI (if_pos (b_1.mp c110)).symm]
                   exact ih (j + 1) (by omega))
                | (rw [show v126 = nI (cot t s (j + 1)) by rw [ev126, fa_or, Nat.or_zero]; exact congrArg nI (if_neg (fun q => c110 (b_1.mpr q))).symm]
                   exact ih (j + 1) (by omega))
            · refine aw_iconst (v := nI 1) d_M_meets_113 (by decide) ?_
              refine aw_aload_n d_M_meets_114 rfl ?_
              refine aw_iload_n d_M_meets_115 rfl ?_
              refine aw_iload d_M_meets_116 rfl ?_
              refine aw_iadd d_M_meets_118 ?_
              rw [nI_add]
              refine aw_ialoadN d_M_meets_119 ((ab_set_ne hAB).trans hA) (by omega) hN ?_
              refine aw_ishl d_M_meets_120 ?_
              refine aw_goto (tgt := 125) d_M_meets_121 (by decide) ?_
              refine aw_ior d_M_meets_125 ?_
              refine aw_topi (fun v126 ev126 => ?_)
              refine aw_istore (L' := [some (.ref 56), some (.ref A), some (.int (nI fo)), some (.int (nI k)), some (.int (nI s)), some (.ref B), some (.int (nI 0)), some (.int (nI (k / 10000))), some (.int v126), some (.int (nI (j))), none, none, none]) d_M_meets_126 ⟨by decide, rfl⟩ rfl ?_
              refine aw_iinc (v := nI ((j) + 1)) (L' := [some (.ref 56), some (.ref A), some (.int (nI fo)), some (.int (nI k)), some (.int (nI s)), some (.ref B), some (.int (nI 0)), some (.int (nI (k / 10000))), some (.int v126), some (.int (nI ((j) + 1))), none, none, none]) d_M_meets_128 rfl (nI_1 _) ⟨by decide, rfl⟩ rfl ?_
              refine aw_goto (tgt := 91) d_M_meets_131 (by decide) ?_
              first
                | (rw [show v126 = nI (cot t s (j + 1)) by rw [ev126, hg j (by omega), b_one (Nat.lt_trans (ht.1 j (by omega)) (by decide)), fa_or]; exact congrArg nI (if_pos (b_1.mp c110)).symm]
                   exact ih (j + 1) (by omega))
                | (rw [show v126 = nI (cot t s (j + 1)) by rw [ev126, fa_or, Nat.or_zero]; exact congrArg nI (if_neg (fun q => c110 (b_1.mpr q))).symm]
                   exact ih (j + 1) (by omega))
      exact loop2 (N_n N) 0 (by omega)
    · have k0 : k / 10000 = 0 := (nI_eq (b := 0) (by omega) (by decide)).mp c41
      have h0 := h0 k0
      refine aw_iload_n d_M_meets_44 rfl ?_
      refine aw_bipush (v := nI 100) d_M_meets_45 (by decide) ?_
      refine aw_idiv d_M_meets_47 (by decide) ?_
      rw [dv hk (by decide) (by decide)]
      refine aw_istore (L' := [some (.ref 56), some (.ref A), some (.int (nI fo)), some (.int (nI k)), some (.int (nI s)), some (.ref B), some (.int (nI 0)), some (.int (nI (k / 10000))), some (.int (nI (k / 100))), none, none, none, none]) d_M_meets_48 ⟨by decide, rfl⟩ rfl ?_
      refine aw_iload_n d_M_meets_50 rfl ?_
      refine aw_bipush (v := nI 100) d_M_meets_51 (by decide) ?_
      refine aw_irem d_M_meets_53 (by decide) ?_
      rw [rm hk (by decide) (by decide)]
      refine aw_istore (L' := [some (.ref 56), some (.ref A), some (.int (nI fo)), some (.int (nI k)), some (.int (nI s)), some (.ref B), some (.int (nI 0)), some (.int (nI (k / 10000))), some (.int (nI (k / 100))), some (.int (nI (k % 100))), none, none, none]) d_M_meets_54 ⟨by decide, rfl⟩ rfl ?_
      refine aw_aload d_M_meets_56 rfl ?_
      refine aw_iload d_M_meets_58 rfl ?_
      refine aw_iload d_M_meets_60 rfl ?_
      refine aw_iadd d_M_meets_62 ?_
      rw [nI_add, Nat.zero_add]
      refine aw_aload_n d_M_meets_63 rfl ?_
      refine aw_iload_n d_M_meets_64 rfl ?_
      refine aw_iload d_M_meets_65 rfl ?_
      refine aw_iadd d_M_meets_67 ?_
      rw [nI_add]
      refine aw_ialoadN d_M_meets_68 ((ab_set_ne hAB).trans hA) (by omega) hN ?_
      refine aw_iastoreN d_M_meets_69 (ab_set_self h B _) (by omega) (by decide) ?_
      rw [ab_set_set]
      refine aw_aload d_M_meets_70 rfl ?_
      refine aw_iload d_M_meets_72 rfl ?_
      refine aw_iload d_M_meets_74 rfl ?_
      refine aw_iadd d_M_meets_76 ?_
      rw [nI_add, Nat.zero_add]
      refine aw_aload_n d_M_meets_77 rfl ?_
      refine aw_iload_n d_M_meets_78 rfl ?_
      refine aw_iload d_M_meets_79 rfl ?_
      refine aw_iadd d_M_meets_81 ?_
      rw [nI_add]
      refine aw_ialoadN d_M_meets_82 ((ab_set_ne hAB).trans hA) (by omega) hN ?_
      refine aw_iastoreN d_M_meets_83 (ab_set_self _ _ _) (by omega) (by decide) ?_
      refine aw_return d_M_meets_84 rfl ?_
      rw [ab_set_set]
      refine ⟨rfl, rfl, _, rfl, fun i hi => ?_⟩
      rw [hg _ h0.1, hg _ h0.2]
      unfold aft sw
      rw [if_pos k0]
      by_cases z : i = k % 100
      · subst z; rw [pk_us, ud_s]
      · rw [pk_un z, ud_n z]
        by_cases y : i = k / 100
        · subst y; rw [pk_us, ud_s]
        · rw [pk_un y, ud_n y]; exact e1 i hi
  have loop1 : ∀ kf j (g2 : Nat → Int32), j + kf = N_n N → (∀ i, i < j → g2 i = nI (t i)) → ab_W Y_M_meets none l (fun r m2 h2 => r = none ∧ m2 = m ∧ ∃ g2 : Nat → Int32, h2 = ab_set h B (.inl (6, g2)) ∧ ∀ j, j < N_n N → g2 j = nI (aft t k s j)) 10 [some (.ref 56), some (.ref A), some (.int (nI fo)), some (.int (nI k)), some (.int (nI s)), some (.ref B), some (.int (nI 0)), some (.int (nI (k / 10000))), some (.int (nI (j))), none, none, none, none] [] m (ab_set h B (.inl (6, g2))) (0, 0) := by
    intro kf
    induction kf with
    | zero =>
      intro j g2 hj e
      have hjn : N_n N = j := by omega
      subst hjn
      refine aw_iload d_M_meets_10 rfl ?_
      refine aw_aload_n d_M_meets_12 rfl ?_
      refine aw_get (k := 0) d_M_meets_13 cl_Model k_M_118 (by decide) ((ab_set_ne (Ne.symm hB5)).trans hM) rfl ?_
      refine aw_icmp_ge (tgt := 39) d_M_meets_16 (by decide) (fun c16 => ?_) (fun c16 => ?_)
      · exact cont g2 e
      · exact absurd (Int32.le_refl _) c16
    | succ kf ih =>
      intro j g2 hj e
      refine aw_iload d_M_meets_10 rfl ?_
      refine aw_aload_n d_M_meets_12 rfl ?_
      refine aw_get (k := 0) d_M_meets_13 cl_Model k_M_118 (by decide) ((ab_set_ne (Ne.symm hB5)).trans hM) rfl ?_
      refine aw_icmp_ge (tgt := 39) d_M_meets_16 (by decide) (fun c16 => ?_) (fun c16 => ?_)
      · exact absurd c16 (nI_ge (by omega) (by omega))
      · refine aw_aload d_M_meets_19 rfl ?_
        refine aw_iload d_M_meets_21 rfl ?_
        refine aw_iload d_M_meets_23 rfl ?_
        refine aw_iadd d_M_meets_25 ?_
        rw [nI_add, Nat.zero_add]
        refine aw_aload_n d_M_meets_26 rfl ?_
        refine aw_iload_n d_M_meets_27 rfl ?_
        refine aw_iload d_M_meets_28 rfl ?_
        refine aw_iadd d_M_meets_30 ?_
        rw [nI_add]
        refine aw_ialoadN d_M_meets_31 ((ab_set_ne hAB).trans hA) (by omega) hN ?_
        refine aw_iastoreN d_M_meets_32 (ab_set_self h B _) (by omega) (by decide) ?_
        refine aw_iinc (v := nI ((j) + 1)) (L' := [some (.ref 56), some (.ref A), some (.int (nI fo)), some (.int (nI k)), some (.int (nI s)), some (.ref B), some (.int (nI 0)), some (.int (nI (k / 10000))), some (.int (nI ((j) + 1))), none, none, none, none]) d_M_meets_33 rfl (nI_1 _) ⟨by decide, rfl⟩ rfl ?_
        refine aw_goto (tgt := 10) d_M_meets_36 (by decide) ?_
        rw [ab_set_set, hg j (by omega)]
        exact ih (j + 1) _ (by omega) (fun i hi => by
          by_cases q : i = j
          · subst q; exact pk_us
          · rw [pk_un q]; exact e i (by omega))
  refine aw_iload_n d_M_meets_0 rfl ?_
  refine aw_sipush (v := nI 10000) d_M_meets_1 (by decide) ?_
  refine aw_idiv d_M_meets_4 (by decide) ?_
  rw [dv hk (by decide) (by decide)]
  refine aw_istore (L' := [some (.ref 56), some (.ref A), some (.int (nI fo)), some (.int (nI k)), some (.int (nI s)), some (.ref B), some (.int (nI 0)), some (.int (nI (k / 10000))), none, none, none, none, none]) d_M_meets_5 ⟨by decide, rfl⟩ rfl ?_
  refine aw_iconst (v := nI 0) d_M_meets_7 (by decide) ?_
  refine aw_istore (L' := [some (.ref 56), some (.ref A), some (.int (nI fo)), some (.int (nI k)), some (.int (nI s)), some (.ref B), some (.int (nI 0)), some (.int (nI (k / 10000))), some (.int (nI 0)), none, none, none, none]) d_M_meets_8 ⟨by decide, rfl⟩ rfl ?_
  exact aw_heap (ab_set_eq hB) (loop1 (N_n N) 0 gb (by omega) (fun i hi => absurd hi (Nat.not_lt_zero _)))
