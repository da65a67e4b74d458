theorem c_doesBlock {m : Nat} {h : ab_H} {N : NS} {me mi ve la : Int32} {tl : Nat} {at_ wr : Int32} {fe : Nat} {kp : Bool} (hM : h 56 = oM (N_n N) (N_ns N) (N_ra N) (N_se N) me mi (nI (TT (N_n N))) ve la tl at_ wr fe kp) (hP : PMn h N) (ok : N_ok N) {g2 g3 : Nat → Int32} (h68 : h 68 = .inl (4320, g2)) (hly : LY (N_n N) (6 ^ N_n N) g2 g3) {gt : Nat → Int32} (h66 : h 66 = .inl (6, gt)) {x : Nat → Nat} (hx : ∀ k, k < N_n N → x k < 6) (hg : ∀ k, k < N_n N → gt k = nI (x k)) {s : Nat} (hs : s < 64) : ab_D Y_M_doesBlock [.ref 56, .int (nI s)] m h (some (.int (ab_bl (bk N x s)))) m h := by
  obtain ⟨⟨gx, hx0, ax⟩, ⟨gy, hy, ay⟩, ⟨gm, hm, am⟩, ⟨gh, hh, ah⟩, ⟨gl, hl, al⟩, ⟨gw, hw, aw⟩, ⟨ga, ha0, aa⟩, ⟨gi, hi, ai⟩, ⟨gj, hj0, aj⟩, ⟨gf, hf0, af⟩⟩ := id hP
  have hn6 : N_n N ≤ 6 := ok.1
  have hns : N_ns N ≤ 4 := ok.2.2.2.2.2.2.2.2.1
  have hw6 := ok.w6
  have aw : ∀ k, k < N_n N → gw k = nI (N_w N / 2 ^ k % 2) := aw
  have bx := ok.2.2.2.2.2.1
  have bi := ok.2.2.2.2.2.2.2.2.2.1
  have hTT := (TT_le hn6).1
  have blk := ok.2.2.2.2.2.2.1
  refine ab_C.of (L := [some (.ref 56), some (.int (nI s)), none, none, none, none, none, none]) rfl rfl (Nat.le_of_ble_eq_true rfl) (fun l => ?_)
  have loop : ∀ kf t, t + kf = TT (N_n N) → (∀ u, u < t → ∃ w, w < N_n N ∧ rok N x s (prm (N_n N) u) w = false) → ab_W Y_M_doesBlock none l (fun r m2 h2 => r = some (.int (ab_bl (bk N x s))) ∧ m2 = m ∧ h2 = h) 4 [some (.ref 56), some (.int (nI s)), some (.int (nI 0)), some (.int (nI (t))), none, none, none, none] [] m (h) (0, 0) := by
    intro kf
    induction kf with
    | zero =>
      intro t ht e9
      have htn : TT (N_n N) = t := by omega
      subst htn
      refine aw_iload_n d_M_doesBlock_4 rfl ?_
      refine aw_aload_n d_M_doesBlock_5 rfl ?_
      refine aw_get (k := 17) d_M_doesBlock_6 cl_Model k_M_220 (by decide) hM rfl ?_
      refine aw_icmp_ge (tgt := 158) d_M_doesBlock_9 (by decide) (fun c9 => ?_) (fun c9 => ?_)
      · refine aw_iload_n d_M_doesBlock_158 rfl ?_
        refine aw_ireturn d_M_doesBlock_159 rfl (by decide) ?_
        have eb : bk N x s = false := Bool.eq_false_iff.mpr (fun z => by
          obtain ⟨u, hu, hz⟩ := (bk_iff ok).mp z
          obtain ⟨w, hw, hno⟩ := e9 u hu
          rw [hz w hw] at hno
          cases hno)
        exact ⟨by rw [eb]; rfl, rfl, rfl⟩
      · exact absurd (Int32.le_refl _) c9
    | succ kf ih =>
      intro t ht e9
      refine aw_iload_n d_M_doesBlock_4 rfl ?_
      refine aw_aload_n d_M_doesBlock_5 rfl ?_
      refine aw_get (k := 17) d_M_doesBlock_6 cl_Model k_M_220 (by decide) hM rfl ?_
      refine aw_icmp_ge (tgt := 158) d_M_doesBlock_9 (by decide) (fun c9 => ?_) (fun c9 => ?_)
      · exact absurd c9 (nI_ge (by omega) (by omega))
      · refine aw_iload_n d_M_doesBlock_12 rfl ?_
        refine aw_if_ne (tgt := 158) d_M_doesBlock_13 (by decide) (fun c13 => ?_) (fun c13 => ?_)
        · first | exact absurd c13 (by decide) | exact absurd (by decide) c13
        · refine aw_iconst (v := nI 1) d_M_doesBlock_16 (by decide) ?_
          refine aw_istore (L' := [some (.ref 56), some (.int (nI s)), some (.int (nI 0)), some (.int (nI (t))), some (.int (nI 1)), none, none, none]) d_M_doesBlock_17 ⟨by decide, rfl⟩ rfl ?_
          refine aw_iconst (v := nI 0) d_M_doesBlock_19 (by decide) ?_
          refine aw_istore (L' := [some (.ref 56), some (.int (nI s)), some (.int (nI 0)), some (.int (nI (t))), some (.int (nI 1)), some (.int (nI 0)), none, none]) d_M_doesBlock_20 ⟨by decide, rfl⟩ rfl ?_
          have hxt := prm_t hn6 (show t < TT (N_n N) by omega)
          have contY : (∀ q, q < N_n N → rok N x s (prm (N_n N) t) q = true) → ab_W Y_M_doesBlock none l (fun r m2 h2 => r = some (.int (ab_bl (bk N x s))) ∧ m2 = m ∧ h2 = h) 149 [some (.ref 56), some (.int (nI s)), some (.int (nI 0)), some (.int (nI t)), some (.int (nI 1)), none, none, none] [] m h (0, 0) := by
            intro yes
            have eb : bk N x s = true := (bk_iff ok).mpr ⟨t, by omega, yes⟩
            refine aw_iload d_M_doesBlock_149 rfl ?_
            refine aw_istore_n (L' := [some (.ref 56), some (.int (nI s)), some (.int (nI 1)), some (.int (nI t)), some (.int (nI 1)), none, none, none]) d_M_doesBlock_151 ⟨by decide, rfl⟩ rfl ?_
            refine aw_iinc (v := nI (t + 1)) (L' := [some (.ref 56), some (.int (nI s)), some (.int (nI 1)), some (.int (nI (t + 1))), some (.int (nI 1)), none, none, none]) d_M_doesBlock_152 rfl (nI_1 _) ⟨by decide, rfl⟩ rfl ?_
            refine aw_goto (tgt := 4) d_M_doesBlock_155 (by decide) ?_
            refine aw_iload_n d_M_doesBlock_4 rfl ?_
            refine aw_aload_n d_M_doesBlock_5 rfl ?_
            refine aw_get (k := 17) d_M_doesBlock_6 cl_Model k_M_220 (by decide) hM rfl ?_
            refine aw_icmp_ge (tgt := 158) d_M_doesBlock_9 (by decide) (fun c9 => ?_) (fun c9 => ?_)
            · refine aw_iload_n d_M_doesBlock_158 rfl ?_
              refine aw_ireturn d_M_doesBlock_159 rfl (by decide) ?_
              exact ⟨by rw [eb]; rfl, rfl, rfl⟩
            · refine aw_iload_n d_M_doesBlock_12 rfl ?_
              refine aw_if_ne (tgt := 158) d_M_doesBlock_13 (by decide) (fun c13 => ?_) (fun c13 => ?_)
              · refine aw_iload_n d_M_doesBlock_158 rfl ?_
                refine aw_ireturn d_M_doesBlock_159 rfl (by decide) ?_
                exact ⟨by rw [eb]; rfl, rfl, rfl⟩
              · first | exact absurd c13 (by decide) | exact absurd (by decide) c13
          have contN : ∀ w, w < N_n N → rok N x s (prm (N_n N) t) w = false → ab_W Y_M_doesBlock none l (fun r m2 h2 => r = some (.int (ab_bl (bk N x s))) ∧ m2 = m ∧ h2 = h) 149 [some (.ref 56), some (.int (nI s)), some (.int (nI 0)), some (.int (nI t)), some (.int (nI 0)), none, none, none] [] m h (0, 0) := by
            intro w hw no
            refine aw_iload d_M_doesBlock_149 rfl ?_
            refine aw_istore_n (L' := [some (.ref 56), some (.int (nI s)), some (.int (nI 0)), some (.int (nI t)), some (.int (nI 0)), none, none, none]) d_M_doesBlock_151 ⟨by decide, rfl⟩ rfl ?_
            refine aw_iinc (v := nI (t + 1)) (L' := [some (.ref 56), some (.int (nI s)), some (.int (nI 0)), some (.int (nI (t + 1))), some (.int (nI 0)), none, none, none]) d_M_doesBlock_152 rfl (nI_1 _) ⟨by decide, rfl⟩ rfl ?_
            refine aw_goto (tgt := 4) d_M_doesBlock_155 (by decide) ?_
            exact aw_drop 4 (ih (t + 1) (by omega) (fun t' ht' => by
              by_cases e : t' = t
              · subst e; exact ⟨w, hw, no⟩
              · exact e9 t' (by omega)))
          have bad22 : ∀ w (a b d : Int32), w < N_n N → rok N x s (prm (N_n N) t) w = false → ab_W Y_M_doesBlock none l (fun r m2 h2 => r = some (.int (ab_bl (bk N x s))) ∧ m2 = m ∧ h2 = h) 22 [some (.ref 56), some (.int (nI s)), some (.int (nI 0)), some (.int (nI t)), some (.int (nI 0)), some (.int a), some (.int b), some (.int d)] [] m h (0, 0) := by
            intro w a b d hw no
            refine aw_iload d_M_doesBlock_22 rfl ?_
            refine aw_aload_n d_M_doesBlock_24 rfl ?_
            refine aw_get (k := 0) d_M_doesBlock_25 cl_Model k_M_118 (by decide) hM rfl ?_
            refine aw_icmp_ge (tgt := 149) d_M_doesBlock_28 (by decide) (fun c28 => ?_) (fun c28 => ?_)
            · exact aw_drop 5 (aw_drop 6 (aw_drop 7 (contN w hw no)))
            · refine aw_iload d_M_doesBlock_31 rfl ?_
              refine aw_if_eq (tgt := 149) d_M_doesBlock_33 (by decide) (fun c33 => ?_) (fun c33 => ?_)
              · exact aw_drop 5 (aw_drop 6 (aw_drop 7 (contN w hw no)))
              · first | exact absurd c33 (by decide) | exact absurd (by decide) c33
          have loopw : ∀ ke w, w + ke = N_n N → (∀ q, q < w → rok N x s (prm (N_n N) t) q = true) → ab_W Y_M_doesBlock none l (fun r m2 h2 => r = some (.int (ab_bl (bk N x s))) ∧ m2 = m ∧ h2 = h) 22 [some (.ref 56), some (.int (nI s)), some (.int (nI 0)), some (.int (nI t)), some (.int (nI 1)), some (.int (nI (w))), none, none] [] m (h) (0, 0) := by
            intro ke
            induction ke with
            | zero =>
              intro w hw e0
              have hwn : N_n N = w := by omega
              subst hwn
              refine aw_iload d_M_doesBlock_22 rfl ?_
              refine aw_aload_n d_M_doesBlock_24 rfl ?_
              refine aw_get (k := 0) d_M_doesBlock_25 cl_Model k_M_118 (by decide) hM rfl ?_
              refine aw_icmp_ge (tgt := 149) d_M_doesBlock_28 (by decide) (fun c28 => ?_) (fun c28 => ?_)
              · exact aw_drop 5 (aw_drop 6 (aw_drop 7 (contY e0)))
              · exact absurd (Int32.le_refl _) c28
            | succ ke ihw =>
              intro w hw e0
              refine aw_iload d_M_doesBlock_22 rfl ?_
              refine aw_aload_n d_M_doesBlock_24 rfl ?_
              refine aw_get (k := 0) d_M_doesBlock_25 cl_Model k_M_118 (by decide) hM rfl ?_
              refine aw_icmp_ge (tgt := 149) d_M_doesBlock_28 (by decide) (fun c28 => ?_) (fun c28 => ?_)
              · exact absurd c28 (nI_ge (by omega) (by omega))
              · refine aw_iload d_M_doesBlock_31 rfl ?_
                refine aw_if_eq (tgt := 149) d_M_doesBlock_33 (by decide) (fun c33 => ?_) (fun c33 => ?_)
                · first | exact absurd c33 (by decide) | exact absurd (by decide) c33
                · refine aw_aload_n d_M_doesBlock_36 rfl ?_
                  refine aw_get (k := 18) d_M_doesBlock_37 cl_Model k_M_50 (by decide) hM rfl ?_
                  refine aw_bipush (v := nI 6) d_M_doesBlock_40 (by decide) ?_
                  refine aw_iload_n d_M_doesBlock_42 rfl ?_
                  refine aw_imul d_M_doesBlock_43 ?_
                  refine aw_iload d_M_doesBlock_44 rfl ?_
                  refine aw_iadd d_M_doesBlock_46 ?_
                  rw [pk_mul, nI_add]
                  refine aw_ialoadN d_M_doesBlock_47 h68 (by omega) (by decide) ?_
                  have xw := hxt.1.in hn6 hxt.2.1 (show w < N_n N by omega)
                  have tw := ok.pm.1 (prm (N_n N) t w) (by omega)
                  have xx := hx w (by omega)
                  rw [hly.row (show t < TT (N_n N) by omega) (show w < N_n N by omega)]
                  refine aw_istore (L' := [some (.ref 56), some (.int (nI s)), some (.int (nI 0)), some (.int (nI t)), some (.int (nI 1)), some (.int (nI (w))), some (.int (nI (prm (N_n N) t w))), none]) d_M_doesBlock_48 ⟨by decide, rfl⟩ rfl ?_
                  refine aw_iload_n d_M_doesBlock_50 rfl ?_
                  refine aw_iload d_M_doesBlock_51 rfl ?_
                  refine aw_ishr d_M_doesBlock_53 ?_
                  refine aw_iconst (v := nI 1) d_M_doesBlock_54 (by decide) ?_
                  refine aw_iand d_M_doesBlock_55 ?_
                  refine aw_iconst (v := nI 1) d_M_doesBlock_56 (by decide) ?_
                  rw [b_at (by omega) (by omega)]
                  refine aw_icmp_ne (tgt := 64) d_M_doesBlock_57 (by decide) (fun c57 => ?_) (fun c57 => ?_)
                  · refine aw_iconst (v := nI 0) d_M_doesBlock_64 (by decide) ?_
                    refine aw_istore (L' := [some (.ref 56), some (.int (nI s)), some (.int (nI 0)), some (.int (nI t)), some (.int (nI 1)), some (.int (nI (w))), some (.int (nI (prm (N_n N) t w))), some (.int (nI 0))]) d_M_doesBlock_65 ⟨by decide, rfl⟩ rfl ?_
                    refine aw_iload d_M_doesBlock_67 rfl ?_
                    refine aw_if_eq (tgt := 129) d_M_doesBlock_69 (by decide) (fun c69 => ?_) (fun c69 => ?_)
                    · refine aw_iload d_M_doesBlock_129 rfl ?_
                      refine aw_iload d_M_doesBlock_131 rfl ?_
                      refine aw_icmp_ne (tgt := 140) d_M_doesBlock_133 (by decide) (fun c133 => ?_) (fun c133 => ?_)
                      · refine aw_iconst (v := nI 0) d_M_doesBlock_140 (by decide) ?_
                        refine aw_istore (L' := [some (.ref 56), some (.int (nI s)), some (.int (nI 0)), some (.int (nI t)), some (.int (nI 0)), some (.int (nI (w))), some (.int (nI (prm (N_n N) t w))), some (.int (nI 0))]) d_M_doesBlock_141 ⟨by decide, rfl⟩ rfl ?_
                        refine aw_iinc (v := nI ((w) + 1)) (L' := [some (.ref 56), some (.int (nI s)), some (.int (nI 0)), some (.int (nI t)), some (.int (nI 0)), some (.int (nI ((w) + 1))), some (.int (nI (prm (N_n N) t w))), some (.int (nI 0))]) d_M_doesBlock_143 rfl (nI_1 _) ⟨by decide, rfl⟩ rfl ?_
                        refine aw_goto (tgt := 22) d_M_doesBlock_146 (by decide) ?_
                        have b1 := blk (6 * w + x w) (by omega)
                        have b2 := blk (6 * w + N_t N (prm (N_n N) t w)) (by omega)
                        first
                          | (refine aw_drop 6 (aw_drop 7 (ihw (w + 1) (by omega) (fun q hq => ?_)))
                             by_cases e : q = w
                             · subst e
                               unfold rok
                               first
                                 | (rw [if_pos (b_1.mp c57)]
                                    exact decide_eq_true ⟨b_1.mp c79, Nat.not_le.mp (fun z => c118 (nI_le z (by omega)))⟩)
                                 | (rw [if_neg (fun z => c57 (b_1.mpr z))]
                                    exact decide_eq_true ((nI_eq (by omega) (by omega)).mp c133))
                             · exact e0 q (by omega))
                          | (refine bad22 w _ _ _ (by omega) ?_
                             unfold rok
                             first
                               | (rw [if_pos (b_1.mp c57)]
                                  first
                                    | exact decide_eq_false (fun z => c79 (b_1.mpr z.1))
                                    | exact decide_eq_false (fun z => by have := (nI_leI (by omega) (by omega)).mp c118; omega))
                               | (rw [if_neg (fun z => c57 (b_1.mpr z))]
                                  exact decide_eq_false (fun z => c133 (by rw [z]))))
                      · refine aw_iconst (v := nI 1) d_M_doesBlock_136 (by decide) ?_
                        refine aw_goto (tgt := 141) d_M_doesBlock_137 (by decide) ?_
                        refine aw_istore (L' := [some (.ref 56), some (.int (nI s)), some (.int (nI 0)), some (.int (nI t)), some (.int (nI 1)), some (.int (nI (w))), some (.int (nI (prm (N_n N) t w))), some (.int (nI 0))]) d_M_doesBlock_141 ⟨by decide, rfl⟩ rfl ?_
                        refine aw_iinc (v := nI ((w) + 1)) (L' := [some (.ref 56), some (.int (nI s)), some (.int (nI 0)), some (.int (nI t)), some (.int (nI 1)), some (.int (nI ((w) + 1))), some (.int (nI (prm (N_n N) t w))), some (.int (nI 0))]) d_M_doesBlock_143 rfl (nI_1 _) ⟨by decide, rfl⟩ rfl ?_
                        refine aw_goto (tgt := 22) d_M_doesBlock_146 (by decide) ?_
                        have b1 := blk (6 * w + x w) (by omega)
                        have b2 := blk (6 * w + N_t N (prm (N_n N) t w)) (by omega)
                        first
                          | (refine aw_drop 6 (aw_drop 7 (ihw (w + 1) (by omega) (fun q hq => ?_)))
                             by_cases e : q = w
                             · subst e
                               unfold rok
                               first
                                 | (rw [if_pos (b_1.mp c57)]
                                    exact decide_eq_true ⟨b_1.mp c79, Nat.not_le.mp (fun z => c118 (nI_le z (by omega)))⟩)
                                 | (rw [if_neg (fun z => c57 (b_1.mpr z))]
                                    exact decide_eq_true ((nI_eq (by omega) (by omega)).mp c133))
                             · exact e0 q (by omega))
                          | (refine bad22 w _ _ _ (by omega) ?_
                             unfold rok
                             first
                               | (rw [if_pos (b_1.mp c57)]
                                  first
                                    | exact decide_eq_false (fun z => c79 (b_1.mpr z.1))
                                    | exact decide_eq_false (fun z => by have := (nI_leI (by omega) (by omega)).mp c118; omega))
                               | (rw [if_neg (fun z => c57 (b_1.mpr z))]
                                  exact decide_eq_false (fun z => c133 (by rw [z]))))
                    · first | exact absurd c69 (by decide) | exact absurd (by decide) c69
                  · refine aw_iconst (v := nI 1) d_M_doesBlock_60 (by decide) ?_
                    refine aw_goto (tgt := 65) d_M_doesBlock_61 (by decide) ?_
                    refine aw_istore (L' := [some (.ref 56), some (.int (nI s)), some (.int (nI 0)), some (.int (nI t)), some (.int (nI 1)), some (.int (nI (w))), some (.int (nI (prm (N_n N) t w))), some (.int (nI 1))]) d_M_doesBlock_65 ⟨by decide, rfl⟩ rfl ?_
                    refine aw_iload d_M_doesBlock_67 rfl ?_
                    refine aw_if_eq (tgt := 129) d_M_doesBlock_69 (by decide) (fun c69 => ?_) (fun c69 => ?_)
                    · first | exact absurd c69 (by decide) | exact absurd (by decide) c69
                    · refine aw_iload_n d_M_doesBlock_72 rfl ?_
                      refine aw_iload d_M_doesBlock_73 rfl ?_
                      refine aw_ishr d_M_doesBlock_75 ?_
                      refine aw_iconst (v := nI 1) d_M_doesBlock_76 (by decide) ?_
                      refine aw_iand d_M_doesBlock_77 ?_
                      refine aw_iconst (v := nI 1) d_M_doesBlock_78 (by decide) ?_
                      rw [b_at (by omega) (by omega)]
                      refine aw_icmp_ne (tgt := 125) d_M_doesBlock_79 (by decide) (fun c79 => ?_) (fun c79 => ?_)
                      · refine aw_iconst (v := nI 0) d_M_doesBlock_125 (by decide) ?_
                        refine aw_goto (tgt := 141) d_M_doesBlock_126 (by decide) ?_
                        refine aw_istore (L' := [some (.ref 56), some (.int (nI s)), some (.int (nI 0)), some (.int (nI t)), some (.int (nI 0)), some (.int (nI (w))), some (.int (nI (prm (N_n N) t w))), some (.int (nI 1))]) d_M_doesBlock_141 ⟨by decide, rfl⟩ rfl ?_
                        refine aw_iinc (v := nI ((w) + 1)) (L' := [some (.ref 56), some (.int (nI s)), some (.int (nI 0)), some (.int (nI t)), some (.int (nI 0)), some (.int (nI ((w) + 1))), some (.int (nI (prm (N_n N) t w))), some (.int (nI 1))]) d_M_doesBlock_143 rfl (nI_1 _) ⟨by decide, rfl⟩ rfl ?_
                        refine aw_goto (tgt := 22) d_M_doesBlock_146 (by decide) ?_
                        have b1 := blk (6 * w + x w) (by omega)
                        have b2 := blk (6 * w + N_t N (prm (N_n N) t w)) (by omega)
                        first
                          | (refine aw_drop 6 (aw_drop 7 (ihw (w + 1) (by omega) (fun q hq => ?_)))
                             by_cases e : q = w
                             · subst e
                               unfold rok
                               first
                                 | (rw [if_pos (b_1.mp c57)]
                                    exact decide_eq_true ⟨b_1.mp c79, Nat.not_le.mp (fun z => c118 (nI_le z (by omega)))⟩)
                                 | (rw [if_neg (fun z => c57 (b_1.mpr z))]
                                    exact decide_eq_true ((nI_eq (by omega) (by omega)).mp c133))
                             · exact e0 q (by omega))
                          | (refine bad22 w _ _ _ (by omega) ?_
                             unfold rok
                             first
                               | (rw [if_pos (b_1.mp c57)]
                                  first
                                    | exact decide_eq_false (fun z => c79 (b_1.mpr z.1))
                                    | exact decide_eq_false (fun z => by have := (nI_leI (by omega) (by omega)).mp c118; omega))
                               | (rw [if_neg (fun z => c57 (b_1.mpr z))]
                                  exact decide_eq_false (fun z => c133 (by rw [z]))))
                      · refine aw_aload_n d_M_doesBlock_82 rfl ?_
                        refine aw_get (k := 5) d_M_doesBlock_83 cl_Model k_M_22 (by decide) hM rfl ?_
                        refine aw_bipush (v := nI 6) d_M_doesBlock_86 (by decide) ?_
                        refine aw_iload d_M_doesBlock_88 rfl ?_
                        refine aw_imul d_M_doesBlock_90 ?_
                        refine aw_aload_n d_M_doesBlock_91 rfl ?_
                        refine aw_get (k := 4) d_M_doesBlock_92 cl_Model k_M_19 (by decide) hM rfl ?_
                        refine aw_iload d_M_doesBlock_95 rfl ?_
                        refine aw_ialoadN d_M_doesBlock_97 hh (by omega) (by decide) ?_
                        rw [ah _ xw, pk_mul]
                        refine aw_iadd d_M_doesBlock_98 ?_
                        rw [nI_add]
                        refine aw_ialoadN d_M_doesBlock_99 hl (by omega) (by decide) ?_
                        rw [al _ (by omega)]
                        refine aw_aload_n d_M_doesBlock_100 rfl ?_
                        refine aw_get (k := 5) d_M_doesBlock_101 cl_Model k_M_22 (by decide) hM rfl ?_
                        refine aw_bipush (v := nI 6) d_M_doesBlock_104 (by decide) ?_
                        refine aw_iload d_M_doesBlock_106 rfl ?_
                        refine aw_imul d_M_doesBlock_108 ?_
                        refine aw_aload_n d_M_doesBlock_109 rfl ?_
                        refine aw_get (k := 15) d_M_doesBlock_110 cl_Model k_M_44 (by decide) hM rfl ?_
                        refine aw_iload d_M_doesBlock_113 rfl ?_
                        refine aw_ialoadN d_M_doesBlock_115 h66 (by omega) (by decide) ?_
                        rw [hg w (by omega), pk_mul]
                        refine aw_iadd d_M_doesBlock_116 ?_
                        rw [nI_add]
                        refine aw_ialoadN d_M_doesBlock_117 hl (by omega) (by decide) ?_
                        rw [al _ (by omega)]
                        refine aw_icmp_le (tgt := 125) d_M_doesBlock_118 (by decide) (fun c118 => ?_) (fun c118 => ?_)
                        · refine aw_iconst (v := nI 0) d_M_doesBlock_125 (by decide) ?_
                          refine aw_goto (tgt := 141) d_M_doesBlock_126 (by decide) ?_
                          refine aw_istore (L' := [some (.ref 56), some (.int (nI s)), some (.int (nI 0)), some (.int (nI t)), some (.int (nI 0)), some (.int (nI (w))), some (.int (nI (prm (N_n N) t w))), some (.int (nI 1))]) d_M_doesBlock_141 ⟨by decide, rfl⟩ rfl ?_
                          refine aw_iinc (v := nI ((w) + 1)) (L' := [some (.ref 56), some (.int (nI s)), some (.int (nI 0)), some (.int (nI t)), some (.int (nI 0)), some (.int (nI ((w) + 1))), some (.int (nI (prm (N_n N) t w))), some (.int (nI 1))]) d_M_doesBlock_143 rfl (nI_1 _) ⟨by decide, rfl⟩ rfl ?_
                          refine aw_goto (tgt := 22) d_M_doesBlock_146 (by decide) ?_
                          have b1 := blk (6 * w + x w) (by omega)
                          have b2 := blk (6 * w + N_t N (prm (N_n N) t w)) (by omega)
                          first
                            | (refine aw_drop 6 (aw_drop 7 (ihw (w + 1) (by omega) (fun q hq => ?_)))
                               by_cases e : q = w
                               · subst e
                                 unfold rok
                                 first
                                   | (rw [if_pos (b_1.mp c57)]
                                      exact decide_eq_true ⟨b_1.mp c79, Nat.not_le.mp (fun z => c118 (nI_le z (by omega)))⟩)
                                   | (rw [if_neg (fun z => c57 (b_1.mpr z))]
                                      exact decide_eq_true ((nI_eq (by omega) (by omega)).mp c133))
                               · exact e0 q (by omega))
                            | (refine bad22 w _ _ _ (by omega) ?_
                               unfold rok
                               first
                                 | (rw [if_pos (b_1.mp c57)]
                                    first
                                      | exact decide_eq_false (fun z => c79 (b_1.mpr z.1))
                                      | exact decide_eq_false (fun z => by have := (nI_leI (by omega) (by omega)).mp c118; omega))
                                 | (rw [if_neg (fun z => c57 (b_1.mpr z))]
                                    exact decide_eq_false (fun z => c133 (by rw [z]))))
                        · refine aw_iconst (v := nI 1) d_M_doesBlock_121 (by decide) ?_
                          refine aw_goto (tgt := 141) d_M_doesBlock_122 (by decide) ?_
                          refine aw_istore (L' := [some (.ref 56), some (.int (nI s)), some (.int (nI 0)), some (.int (nI t)), some (.int (nI 1)), some (.int (nI (w))), some (.int (nI (prm (N_n N) t w))), some (.int (nI 1))]) d_M_doesBlock_141 ⟨by decide, rfl⟩ rfl ?_
                          refine aw_iinc (v := nI ((w) + 1)) (L' := [some (.ref 56), some (.int (nI s)), some (.int (nI 0)), some (.int (nI t)), some (.int (nI 1)), some (.int (nI ((w) + 1))), some (.int (nI (prm (N_n N) t w))), some (.int (nI 1))]) d_M_doesBlock_143 rfl (nI_1 _) ⟨by decide, rfl⟩ rfl ?_
                          refine aw_goto (tgt := 22) d_M_doesBlock_146 (by decide) ?_
                          have b1 := blk (6 * w + x w) (by omega)
                          have b2 := blk (6 * w + N_t N (prm (N_n N) t w)) (by omega)
                          first
                            | (refine aw_drop 6 (aw_drop 7 (ihw (w + 1) (by omega) (fun q hq => ?_)))
                               by_cases e : q = w
                               · subst e
                                 unfold rok
                                 first
                                   | (rw [if_pos (b_1.mp c57)]
                                      exact decide_eq_true ⟨b_1.mp c79, Nat.not_le.mp (fun z => c118 (nI_le z (by omega)))⟩)
                                   | (rw [if_neg (fun z => c57 (b_1.mpr z))]
                                      exact decide_eq_true ((nI_eq (by omega) (by omega)).mp c133))
                               · exact e0 q (by omega))
                            | (refine bad22 w _ _ _ (by omega) ?_
                               unfold rok
                               first
                                 | (rw [if_pos (b_1.mp c57)]
                                    first
                                      | exact decide_eq_false (fun z => c79 (b_1.mpr z.1))
                                      | exact decide_eq_false (fun z => by have := (nI_leI (by omega) (by omega)).mp c118; omega))
                                 | (rw [if_neg (fun z => c57 (b_1.mpr z))]
                                    exact decide_eq_false (fun z => c133 (by rw [z]))))
          exact loopw (N_n N) 0 (by omega) (fun q hq => absurd hq (Nat.not_lt_zero _))
  refine aw_iconst (v := nI 0) d_M_doesBlock_0 (by decide) ?_
  refine aw_istore_n (L' := [some (.ref 56), some (.int (nI s)), some (.int (nI 0)), none, none, none, none, none]) d_M_doesBlock_1 ⟨by decide, rfl⟩ rfl ?_
  refine aw_iconst (v := nI 0) d_M_doesBlock_2 (by decide) ?_
  refine aw_istore_n (L' := [some (.ref 56), some (.int (nI s)), some (.int (nI 0)), some (.int (nI 0)), none, none, none, none]) d_M_doesBlock_3 ⟨by decide, rfl⟩ rfl ?_
  exact loop (TT (N_n N)) 0 (by omega) (fun u hu => absurd hu (Nat.not_lt_zero _))
theorem y_blocks {V : VV} {m c : Nat} {h : ab_H} {S : SS} (hM : PM V c h S) (ok : S_ok S) (hc : c < 900) (sh lane i : Int32) : CM V Y_M_blocks [.int sh, .int lane, .int i] m c h (fun r S2 => (r, S2) = sp_blocks S sh lane i) := by
  obtain ⟨⟨tab, la, at_, wr, ve, fs, ft, m0, m1, m2, m3, m4, m5, m6⟩, ⟨n0, n1, n2, n3, n4, n5, n6, n7, n8, n9⟩, q1, q2, q3, q4⟩ := id hM
  have hn6 : N_n (S_N S) ≤ 6 := ok.1.1
  have hnT := nI_toInt (show N_n (S_N S) < 2 ^ 31 by omega)
  obtain ⟨_, ⟨d1, h67⟩, ⟨d2, h68⟩, ⟨d3, h69⟩, _⟩ := id q3
  have h64 : 2 ^ N_n (S_N S) ≤ 64 := Nat.pow_le_pow_right (by decide) hn6
  have hpos := Nat.two_pow_pos (N_n (S_N S))
  refine ab_C.of (L := [some (.ref 56), some (.int sh), some (.int lane), some (.int i), none, none]) rfl rfl (Nat.le_of_ble_eq_true rfl) (fun l => ?_)
  refine aw_aload_n d_M_blocks_0 rfl ?_
  refine aw_iload_n d_M_blocks_1 rfl ?_
  refine aw_iload_n d_M_blocks_2 rfl ?_
  refine aw_iload_n d_M_blocks_3 rfl ?_
  refine aw_v0 (a := 56) d_M_blocks_4 k_M_166 ok_M_takes rfl ⟨rfl, rfl⟩ cl_Model m0 (c_takes hM ok sh lane i) rfl rfl (Nat.le_of_ble_eq_true rfl) (fun r m2 h2 q => ?_)
  obtain ⟨rfl, em, g, rfl, hgk⟩ := q
  rw [em]
  show ab_W _ _ _ _ 7 _ [.int (sp_take S sh lane i)] _ _ _
  refine aw_topi (fun v7 ev7 => ?_)
  refine aw_istore (L' := [some (.ref 56), some (.int sh), some (.int lane), some (.int i), some (.int v7), none]) d_M_blocks_7 ⟨by decide, rfl⟩ rfl ?_
  refine aw_iload d_M_blocks_9 rfl ?_
  refine aw_if_ge (tgt := 17) d_M_blocks_11 (by decide) (fun c11 => ?_) (fun c11 => ?_)
  · have t01 := sp_take_0 ok (Int32.not_lt.mpr (by rw [← ev7]; exact c11))
    obtain ⟨t0, tgq⟩ := t01
    obtain ⟨tp, tf, ti⟩ := tkg_pm hn6 tgq
    refine aw_aload_n d_M_blocks_17 rfl ?_
    refine aw_aload_n d_M_blocks_18 rfl ?_
    refine aw_get (k := 0) d_M_blocks_19 cl_Model k_M_118 (by decide) m0 rfl ?_
    refine aw_v0 (a := 56) d_M_blocks_22 k_M_226 ok_M_lays rfl ⟨rfl, rfl⟩ cl_Model m0 (c_lays (h := ab_set h 66 (.inl (6, g))) m0 hn6 h67 h68 h69) rfl rfl (Nat.le_of_ble_eq_true rfl) (fun r m2 h2 q => ?_)
    obtain ⟨rfl, em, g1, g2, g3, rfl, hly⟩ := q
    rw [em]
    show ab_W _ _ _ _ 25 _ [] _ _ _
    refine aw_iconst (v := nI 1) d_M_blocks_25 (by decide) ?_
    refine aw_istore (L' := [some (.ref 56), some (.int sh), some (.int lane), some (.int i), some (.int v7), some (.int (nI 1))]) d_M_blocks_26 ⟨by decide, rfl⟩ rfl ?_
    have loop : ∀ kf s, s + kf = 2 ^ N_n (S_N S) → 1 ≤ s → bsr (S_N S) (tkf S sh i) kf s = bsr (S_N S) (tkf S sh i) (2 ^ N_n (S_N S) - 1) 1 → ab_W Y_M_blocks none l (fun r m2 h2 => ∃ (v : Int32) (S2 : SS), r = some (.int v) ∧ (v, S2) = sp_blocks S sh lane i ∧ PM V (c + 1) h2 S2 ∧ m2 = m ∧ ∀ k, (k < 56 ∨ 88 < k) → h2 k = h k) 28 [some (.ref 56), some (.int sh), some (.int lane), some (.int i), some (.int v7), some (.int (nI (s)))] [] m (HL (ab_set h 66 (.inl (6, g))) (oM (N_n (S_N S)) (N_ns (S_N S)) (N_ra (S_N S)) (N_se (S_N S)) (N_me (S_N S)) (N_mi (S_N S)) (nI (TT (N_n (S_N S)))) (nI ve) la (S_tl S) at_ wr (N_fe (S_N S)) (S_K S).isSome) g1 g2 g3) (0, 0) := by
      intro kf
      induction kf with
      | zero =>
        intro s hs hs1 e0
        have hsn : 2 ^ N_n (S_N S) = s := by omega
        subst hsn
        refine aw_iload d_M_blocks_28 rfl ?_
        refine aw_iconst (v := nI 1) d_M_blocks_30 (by decide) ?_
        refine aw_aload_n d_M_blocks_31 rfl ?_
        refine aw_get (k := 0) d_M_blocks_32 cl_Model k_M_118 (by decide) rfl rfl ?_
        refine aw_ishl d_M_blocks_35 ?_
        rw [b_one (by omega)]
        refine aw_icmp_ge (tgt := 67) d_M_blocks_36 (by decide) (fun c36 => ?_) (fun c36 => ?_)
        · refine aw_bipush (v := (-4)) d_M_blocks_67 (by decide) ?_
          refine aw_ireturn d_M_blocks_69 rfl rfl ?_
          refine ⟨_, S, rfl, ?_, PM.mk2 hc (tab2 := nI (TT (N_n (S_N S)))) (la := la) (at_ := at_) (wr := wr) (ve := ve) (fs := fs) (ft := ft) rfl m1 m3 m4 m5 m6 ⟨n0, n1, n2, n3, n4, n5, n6, n7, n8, n9⟩ q1 q2 q4 (fun k h1 h2 h3 h4 => ?_) ⟨⟨g, rfl⟩, ⟨g1, rfl⟩, ⟨g2, rfl⟩, ⟨g3, rfl⟩, q3.2.2.2.2⟩, rfl, fun k hk => ?_⟩
          rotate_left
          · unfold scr at h3
            rw [HL_ne (by omega) (by omega), ab_set_ne (by omega)]
          · rw [HL_ne (by omega) (by omega), ab_set_ne (by omega)]
          unfold sp_blocks
          rw [t0, if_neg (by decide), ← e0]
          rfl
        · exact absurd (Int32.le_refl _) c36
      | succ kf ih =>
        intro s hs hs1 e0
        refine aw_iload d_M_blocks_28 rfl ?_
        refine aw_iconst (v := nI 1) d_M_blocks_30 (by decide) ?_
        refine aw_aload_n d_M_blocks_31 rfl ?_
        refine aw_get (k := 0) d_M_blocks_32 cl_Model k_M_118 (by decide) rfl rfl ?_
        refine aw_ishl d_M_blocks_35 ?_
        rw [b_one (by omega)]
        refine aw_icmp_ge (tgt := 67) d_M_blocks_36 (by decide) (fun c36 => ?_) (fun c36 => ?_)
        · exact absurd c36 (nI_ge (by omega) (by omega))
        · refine aw_iload d_M_blocks_39 rfl ?_
          refine aw_aload_n d_M_blocks_41 rfl ?_
          refine aw_v0i (a := 56) d_M_blocks_42 k_M_205 ok_M_unwilling rfl ⟨rfl, rfl⟩ cl_Model rfl (c_unwilling (h := HL (ab_set h 66 (.inl (6, g))) (oM (N_n (S_N S)) (N_ns (S_N S)) (N_ra (S_N S)) (N_se (S_N S)) (N_me (S_N S)) (N_mi (S_N S)) (nI (TT (N_n (S_N S)))) (nI ve) la (S_tl S) at_ wr (N_fe (S_N S)) (S_K S).isSome) g1 g2 g3) (N := S_N S) rfl ⟨n0, n1, n2, n3, n4, n5, n6, n7, n8, n9⟩ ok.1) rfl rfl (Nat.le_of_ble_eq_true rfl) ?_
          refine aw_iand d_M_blocks_45 ?_
          rw [fa_and]
          refine aw_if_ne (tgt := 61) d_M_blocks_46 (by decide) (fun c46 => ?_) (fun c46 => ?_)
          · refine aw_iinc (v := nI ((s) + 1)) (L' := [some (.ref 56), some (.int sh), some (.int lane), some (.int i), some (.int v7), some (.int (nI ((s) + 1)))]) d_M_blocks_61 rfl (nI_1 _) ⟨by decide, rfl⟩ rfl ?_
            refine aw_goto (tgt := 28) d_M_blocks_64 (by decide) ?_
            first
              | (refine ih (s + 1) (by omega) (by omega) ?_
                 rw [← e0]
                 exact (if_neg (fun z => c46 (by rw [z.1]; rfl))).symm)
              | (refine ih (s + 1) (by omega) (by omega) ?_
                 rw [← e0]
                 exact (if_neg (fun z => by rw [ab_bl_0.mp c55] at z; cases z.2)).symm)
          · refine aw_aload_n d_M_blocks_49 rfl ?_
            refine aw_iload d_M_blocks_50 rfl ?_
            refine aw_v0i (a := 56) d_M_blocks_52 k_M_328 ok_M_doesBlock rfl ⟨rfl, rfl⟩ cl_Model rfl (c_doesBlock (h := HL (ab_set h 66 (.inl (6, g))) (oM (N_n (S_N S)) (N_ns (S_N S)) (N_ra (S_N S)) (N_se (S_N S)) (N_me (S_N S)) (N_mi (S_N S)) (nI (TT (N_n (S_N S)))) (nI ve) la (S_tl S) at_ wr (N_fe (S_N S)) (S_K S).isSome) g1 g2 g3) (N := S_N S) rfl ⟨n0, n1, n2, n3, n4, n5, n6, n7, n8, n9⟩ ok.1 (g2 := g2) rfl hly (gt := g) rfl (fun k hk => tp.1 k (by omega)) (hgk t0) (show s < 64 by omega)) rfl rfl (Nat.le_of_ble_eq_true rfl) ?_
            refine aw_if_eq (tgt := 61) d_M_blocks_55 (by decide) (fun c55 => ?_) (fun c55 => ?_)
            · refine aw_iinc (v := nI ((s) + 1)) (L' := [some (.ref 56), some (.int sh), some (.int lane), some (.int i), some (.int v7), some (.int (nI ((s) + 1)))]) d_M_blocks_61 rfl (nI_1 _) ⟨by decide, rfl⟩ rfl ?_
              refine aw_goto (tgt := 28) d_M_blocks_64 (by decide) ?_
              first
                | (refine ih (s + 1) (by omega) (by omega) ?_
                   rw [← e0]
                   exact (if_neg (fun z => c46 (by rw [z.1]; rfl))).symm)
                | (refine ih (s + 1) (by omega) (by omega) ?_
                   rw [← e0]
                   exact (if_neg (fun z => by rw [ab_bl_0.mp c55] at z; cases z.2)).symm)
            · refine aw_iload d_M_blocks_58 rfl ?_
              refine aw_ireturn d_M_blocks_60 rfl rfl ?_
              refine ⟨_, S, rfl, ?_, PM.mk2 hc (tab2 := nI (TT (N_n (S_N S)))) (la := la) (at_ := at_) (wr := wr) (ve := ve) (fs := fs) (ft := ft) rfl m1 m3 m4 m5 m6 ⟨n0, n1, n2, n3, n4, n5, n6, n7, n8, n9⟩ q1 q2 q4 (fun k h1 h2 h3 h4 => ?_) ⟨⟨g, rfl⟩, ⟨g1, rfl⟩, ⟨g2, rfl⟩, ⟨g3, rfl⟩, q3.2.2.2.2⟩, rfl, fun k hk => ?_⟩
              rotate_left
              · unfold scr at h3
                rw [HL_ne (by omega) (by omega), ab_set_ne (by omega)]
              · rw [HL_ne (by omega) (by omega), ab_set_ne (by omega)]
              unfold sp_blocks
              rw [t0, if_neg (by decide), ← e0]
              have hw9 : s &&& N_w (S_N S) < 64 := and_63 (show s < 64 by omega)
              exact congrArg (fun z => (z, S)) (if_pos ⟨(nI_eq (b := 0) (by omega) (by decide)).mp c46, ab_bl_1.mp c55⟩).symm
    exact loop (2 ^ N_n (S_N S) - 1) 1 (by omega) (Nat.le_refl _) rfl
  · refine aw_iload d_M_blocks_14 rfl ?_
    refine aw_ireturn d_M_blocks_16 rfl rfl ?_
    refine ⟨_, S, rfl, ?_, ⟨⟨tab, la, at_, wr, ve, fs, ft, m0, by omega, by omega, m3, m4, m5, m6⟩, ⟨n0, n1, n2, n3, n4, n5, n6, n7, n8, n9⟩, q1, q2, ⟨⟨g, rfl⟩, q3.2⟩, q4⟩, rfl, (fun k hk => ab_set_ne (by omega))⟩
    unfold sp_blocks
    rw [if_pos (by rw [← ev7]; exact Int32.not_le.mp c11), ev7]
