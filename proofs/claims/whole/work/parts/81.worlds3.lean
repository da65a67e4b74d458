theorem aok_s (n : Nat) (al : Nat → Nat) (x : Nat → Nat) : aok (n + 1) al x = (aok n al x && decide (al n / 2 ^ x n % 2 = 1)) := by
  unfold aok
  rw [List.range_succ, List.all_append]
  simp
abbrev HK (h : ab_H) (e : ab_E) (g1 g2 g3 g8 : Nat → Int32) : ab_H := ab_set (HL h e g1 g2 g3) 78 (.inl (36, g8))
theorem hk_set (h : ab_H) (e : ab_E) (g1 g2 g3 g8 g : Nat → Int32) : ab_set (HK h e g1 g2 g3 g8) 78 (.inl (36, g)) = HK h e g1 g2 g3 g := ab_set_set _ _ _ _
abbrev WA (N : NS) (t : Nat) : Bool := aok (N_n N) (N_ma N) (prm (N_n N) t)
theorem HL_ne {h : ab_H} {e : ab_E} {g1 g2 g3 : Nat → Int32} {k : Nat} (a : k ≠ 56) (b : k < 67 ∨ 69 < k) : HL h e g1 g2 g3 k = h k := by
  unfold HL
  rw [ab_set_ne (by omega), ab_set_ne (by omega), ab_set_ne (by omega), ab_set_ne (by omega)]
theorem c_worldMany {m : Nat} {h : ab_H} {N : NS} {me mi tab ve la : Int32} {tl : Nat} {at_ wr : Int32} {fe : Nat} {kp : Bool} (hM : h 56 = oM (N_n N) (N_ns N) (N_ra N) (N_se N) me mi tab ve la tl at_ wr fe kp) (hP : PMn h N) (ok : N_ok N) {d1 d2 d3 : Nat → Int32} (h67 : h 67 = .inl (6, d1)) (h68 : h 68 = .inl (4320, d2)) (h69 : h 69 = .inl (46656, d3)) {d8 : Nat → Int32} (h78 : h 78 = .inl (36, d8)) : ab_C Y_M_worldMany [.ref 56] m h (fun r m2 h2 => r = some (.int (nI (ww N))) ∧ m2 = m ∧ ∃ g1 g2 g3 g8 : Nat → Int32, h2 = HK h (oM (N_n N) (N_ns N) (N_ra N) (N_se N) me mi (nI (TT (N_n N))) ve la tl at_ wr fe kp) g1 g2 g3 g8 ∧ ∀ p c, p < N_n N → c < N_n N → g8 (6 * p + c) = nI (wb N p c)) := by
  obtain ⟨⟨gx, hx, ax⟩, ⟨gy, hy, ay⟩, ⟨gm, hm, am⟩, ⟨gh, hh, ah⟩, ⟨gl, hl, al⟩, ⟨gw, hw, aw⟩, ⟨ga, ha0, aa⟩, ⟨gi, hi, ai⟩, ⟨gj, hj0, aj⟩, ⟨gf, hf0, af⟩⟩ := id hP
  have hn6 : N_n N ≤ 6 := ok.1
  have hns : N_ns N ≤ 4 := ok.2.2.2.2.2.2.2.2.1
  have hw6 := ok.w6
  have aw : ∀ k, k < N_n N → gw k = nI (N_w N / 2 ^ k % 2) := aw
  have bx := ok.2.2.2.2.2.1
  have bi := ok.2.2.2.2.2.2.2.2.2.1
  have hTT := (TT_le hn6).1
  have bma := ok.2.2.2.2.2.2.2.1
  refine ab_C.of (L := [some (.ref 56), none, none, none, none]) rfl rfl (Nat.le_of_ble_eq_true rfl) (fun l => ?_)
  refine aw_aload_n d_M_worldMany_0 rfl ?_
  refine aw_aload_n d_M_worldMany_1 rfl ?_
  refine aw_get (k := 0) d_M_worldMany_2 cl_Model k_M_118 (by decide) hM rfl ?_
  refine aw_v0 (a := 56) d_M_worldMany_5 k_M_226 ok_M_lays rfl ⟨rfl, rfl⟩ cl_Model hM (c_lays hM hn6 h67 h68 h69) rfl rfl (Nat.le_of_ble_eq_true rfl) (fun r m2 h2 q => ?_)
  obtain ⟨rfl, em, g1, g2, g3, rfl, hl⟩ := q
  rw [em]
  show ab_W _ _ _ _ 8 _ [] _ _ _
  refine aw_iconst (v := nI 0) d_M_worldMany_8 (by decide) ?_
  refine aw_istore_n (L' := [some (.ref 56), some (.int (nI 0)), none, none, none]) d_M_worldMany_9 ⟨by decide, rfl⟩ rfl ?_
  have loopt : ∀ kf t (g8 : Nat → Int32), t + kf = TT (N_n N) → (∀ p c, p < N_n N → c < N_n N → g8 (6 * p + c) = nI (fb_ct (fun t => WA N t && decide (prm (N_n N) t p = c)) t)) → ab_W Y_M_worldMany none l (fun r m2 h2 => r = some (.int (nI (ww N))) ∧ m2 = m ∧ ∃ g1 g2 g3 g8 : Nat → Int32, h2 = HK h (oM (N_n N) (N_ns N) (N_ra N) (N_se N) me mi (nI (TT (N_n N))) ve la tl at_ wr fe kp) g1 g2 g3 g8 ∧ ∀ p c, p < N_n N → c < N_n N → g8 (6 * p + c) = nI (wb N p c)) 33 [some (.ref 56), some (.int (nI (fb_ct (WA N) (t)))), some (.int (nI (t))), none, none] [] m (HK h (oM (N_n N) (N_ns N) (N_ra N) (N_se N) me mi (nI (TT (N_n N))) ve la tl at_ wr fe kp) g1 g2 g3 g8) (0, 0) := by
    intro kf
    induction kf with
    | zero =>
      intro t g8 ht e9
      have htn : TT (N_n N) = t := by omega
      subst htn
      refine aw_iload_n d_M_worldMany_33 rfl ?_
      refine aw_aload_n d_M_worldMany_34 rfl ?_
      refine aw_get (k := 17) d_M_worldMany_35 cl_Model k_M_220 (by decide) rfl rfl ?_
      refine aw_icmp_ge (tgt := 164) d_M_worldMany_38 (by decide) (fun c38 => ?_) (fun c38 => ?_)
      · refine aw_iload_n d_M_worldMany_164 rfl ?_
        refine aw_ireturn d_M_worldMany_165 rfl rfl ?_
        exact ⟨rfl, rfl, g1, g2, g3, g8, rfl, e9⟩
      · exact absurd (Int32.le_refl _) c38
    | succ kf ih =>
      intro t g8 ht e9
      refine aw_iload_n d_M_worldMany_33 rfl ?_
      refine aw_aload_n d_M_worldMany_34 rfl ?_
      refine aw_get (k := 17) d_M_worldMany_35 cl_Model k_M_220 (by decide) rfl rfl ?_
      refine aw_icmp_ge (tgt := 164) d_M_worldMany_38 (by decide) (fun c38 => ?_) (fun c38 => ?_)
      · exact absurd c38 (nI_ge (by omega) (by omega))
      · refine aw_iconst (v := nI 1) d_M_worldMany_41 (by decide) ?_
        refine aw_istore_n (L' := [some (.ref 56), some (.int (nI (fb_ct (WA N) (t)))), some (.int (nI (t))), some (.int (nI 1)), none]) d_M_worldMany_42 ⟨by decide, rfl⟩ rfl ?_
        refine aw_iconst (v := nI 0) d_M_worldMany_43 (by decide) ?_
        refine aw_istore (L' := [some (.ref 56), some (.int (nI (fb_ct (WA N) (t)))), some (.int (nI (t))), some (.int (nI 1)), some (.int (nI 0))]) d_M_worldMany_44 ⟨by decide, rfl⟩ rfl ?_
        have hx := prm_t hn6 (show t < TT (N_n N) by omega)
        have contT : ∀ (g8 : Nat → Int32), WA N t = true → (∀ p c, p < N_n N → c < N_n N → g8 (6 * p + c) = nI (fb_ct (fun t => WA N t && decide (prm (N_n N) t p = c)) t)) → ab_W Y_M_worldMany none l (fun r m2 h2 => r = some (.int (nI (ww N))) ∧ m2 = m ∧ ∃ g1 g2 g3 g8 : Nat → Int32, h2 = HK h (oM (N_n N) (N_ns N) (N_ra N) (N_se N) me mi (nI (TT (N_n N))) ve la tl at_ wr fe kp) g1 g2 g3 g8 ∧ ∀ p c, p < N_n N → c < N_n N → g8 (6 * p + c) = nI (wb N p c)) 97 [some (.ref 56), some (.int (nI (fb_ct (WA N) t))), some (.int (nI t)), some (.int (nI 1)), none] [] m (HK h (oM (N_n N) (N_ns N) (N_ra N) (N_se N) me mi (nI (TT (N_n N))) ve la tl at_ wr fe kp) g1 g2 g3 g8) (0, 0) := by
          intro g8 eA e9
          have loopb : ∀ ke w (g8 : Nat → Int32), w + ke = N_n N → (∀ p c, p < N_n N → c < N_n N → g8 (6 * p + c) = nI (fb_ct (fun t => WA N t && decide (prm (N_n N) t p = c)) t + if p < w ∧ prm (N_n N) t p = c then 1 else 0)) → ab_W Y_M_worldMany none l (fun r m2 h2 => r = some (.int (nI (ww N))) ∧ m2 = m ∧ ∃ g1 g2 g3 g8 : Nat → Int32, h2 = HK h (oM (N_n N) (N_ns N) (N_ra N) (N_se N) me mi (nI (TT (N_n N))) ve la tl at_ wr fe kp) g1 g2 g3 g8 ∧ ∀ p c, p < N_n N → c < N_n N → g8 (6 * p + c) = nI (wb N p c)) 100 [some (.ref 56), some (.int (nI (fb_ct (WA N) t))), some (.int (nI t)), some (.int (nI 1)), some (.int (nI (w)))] [] m (HK h (oM (N_n N) (N_ns N) (N_ra N) (N_se N) me mi (nI (TT (N_n N))) ve la tl at_ wr fe kp) g1 g2 g3 g8) (0, 0) := by
            intro ke
            induction ke with
            | zero =>
              intro w g8 hw e0
              have hwn : N_n N = w := by omega
              subst hwn
              refine aw_iload d_M_worldMany_100 rfl ?_
              refine aw_aload_n d_M_worldMany_102 rfl ?_
              refine aw_get (k := 0) d_M_worldMany_103 cl_Model k_M_118 (by decide) rfl rfl ?_
              refine aw_icmp_ge (tgt := 146) d_M_worldMany_106 (by decide) (fun c106 => ?_) (fun c106 => ?_)
              · refine aw_iload_n d_M_worldMany_146 rfl ?_
                refine aw_iload_n d_M_worldMany_147 rfl ?_
                refine aw_if_eq (tgt := 155) d_M_worldMany_148 (by decide) (fun c148 => ?_) (fun c148 => ?_)
                · first | exact absurd c148 (by decide) | exact absurd (by decide) c148
                · refine aw_iconst (v := nI 1) d_M_worldMany_151 (by decide) ?_
                  refine aw_goto (tgt := 156) d_M_worldMany_152 (by decide) ?_
                  refine aw_iadd d_M_worldMany_156 ?_
                  rw [nI_add]
                  refine aw_istore_n (L' := [some (.ref 56), some (.int (nI (fb_ct (WA N) t + 1))), some (.int (nI t)), some (.int (nI 1)), some (.int (nI (N_n N)))]) d_M_worldMany_157 ⟨by decide, rfl⟩ rfl ?_
                  refine aw_iinc (v := nI (t + 1)) (L' := [some (.ref 56), some (.int (nI (fb_ct (WA N) t + 1))), some (.int (nI (t + 1))), some (.int (nI 1)), some (.int (nI (N_n N)))]) d_M_worldMany_158 rfl (nI_1 _) ⟨by decide, rfl⟩ rfl ?_
                  refine aw_goto (tgt := 33) d_M_worldMany_161 (by decide) ?_
                  have e : fb_ct (WA N) (t + 1) = fb_ct (WA N) t + 1 := by rw [fb_ct_succ, eA]; rfl
                  rw [← e]
                  exact aw_drop 3 (aw_drop 4 (ih (t + 1) g8 (by omega) (fun p c hp hc => by
                    rw [e0 p c hp hc, fb_ct_succ, eA, Bool.true_and]
                    by_cases z : prm (N_n N) t p = c
                    · rw [if_pos ⟨hp, z⟩, decide_eq_true z]; rfl
                    · rw [if_neg (fun y => z y.2), decide_eq_false z]; rfl)))
              · exact absurd (Int32.le_refl _) c106
            | succ ke ihb =>
              intro w g8 hw e0
              refine aw_iload d_M_worldMany_100 rfl ?_
              refine aw_aload_n d_M_worldMany_102 rfl ?_
              refine aw_get (k := 0) d_M_worldMany_103 cl_Model k_M_118 (by decide) rfl rfl ?_
              refine aw_icmp_ge (tgt := 146) d_M_worldMany_106 (by decide) (fun c106 => ?_) (fun c106 => ?_)
              · exact absurd c106 (nI_ge (by omega) (by omega))
              · refine aw_iload_n d_M_worldMany_109 rfl ?_
                refine aw_if_eq (tgt := 146) d_M_worldMany_110 (by decide) (fun c110 => ?_) (fun c110 => ?_)
                · first | exact absurd c110 (by decide) | exact absurd (by decide) c110
                · refine aw_aload_n d_M_worldMany_113 rfl ?_
                  refine aw_get (k := 33) d_M_worldMany_114 cl_Model k_M_85 (by decide) rfl rfl ?_
                  refine aw_bipush (v := nI 6) d_M_worldMany_117 (by decide) ?_
                  refine aw_iload d_M_worldMany_119 rfl ?_
                  refine aw_imul d_M_worldMany_121 ?_
                  refine aw_aload_n d_M_worldMany_122 rfl ?_
                  refine aw_get (k := 18) d_M_worldMany_123 cl_Model k_M_50 (by decide) rfl rfl ?_
                  refine aw_bipush (v := nI 6) d_M_worldMany_126 (by decide) ?_
                  refine aw_iload_n d_M_worldMany_128 rfl ?_
                  refine aw_imul d_M_worldMany_129 ?_
                  refine aw_iload d_M_worldMany_130 rfl ?_
                  refine aw_iadd d_M_worldMany_132 ?_
                  rw [pk_mul, nI_add]
                  refine aw_ialoadN d_M_worldMany_133 rfl (by omega) (by decide) ?_
                  rw [hl.row (show t < TT (N_n N) by omega) (show w < N_n N by omega), pk_mul]
                  have xw := hx.1.in hn6 hx.2.1 (show w < N_n N by omega)
                  refine aw_iadd d_M_worldMany_134 ?_
                  rw [nI_add]
                  refine aw_dup2 d_M_worldMany_135 rfl rfl ?_
                  refine aw_ialoadN d_M_worldMany_136 rfl (by omega) (by decide) ?_
                  refine aw_iconst (v := nI 1) d_M_worldMany_137 (by decide) ?_
                  refine aw_iadd d_M_worldMany_138 ?_
                  refine aw_iastoreN d_M_worldMany_139 rfl (by omega) (by decide) ?_
                  refine aw_iinc (v := nI ((w) + 1)) (L' := [some (.ref 56), some (.int (nI (fb_ct (WA N) t))), some (.int (nI t)), some (.int (nI 1)), some (.int (nI ((w) + 1)))]) d_M_worldMany_140 rfl (nI_1 _) ⟨by decide, rfl⟩ rfl ?_
                  refine aw_goto (tgt := 100) d_M_worldMany_143 (by decide) ?_
                  rw [hk_set]
                  exact ihb (w + 1) _ (by omega) (fun p c hp hc => by
                    have xw := hx.1.in hn6 hx.2.1 (show w < N_n N by omega)
                    by_cases e : p = w
                    · by_cases e2 : prm (N_n N) t w = c
                      · subst e; subst e2
                        rw [pk_us, e0 p _ hp xw, if_neg (by omega), if_pos ⟨by omega, rfl⟩, nI_add]
                      · subst e
                        rw [pk_un (by omega), e0 p c hp hc, if_neg (fun z => by omega), if_neg (fun z => e2 z.2)]
                    · rw [pk_un (by omega), e0 p c hp hc]
                      by_cases e3 : p < w ∧ prm (N_n N) t p = c
                      · rw [if_pos e3, if_pos ⟨by omega, e3.2⟩]
                      · rw [if_neg e3, if_neg (fun z => e3 ⟨by omega, z.2⟩)])
          refine aw_iconst (v := nI 0) d_M_worldMany_97 (by decide) ?_
          refine aw_istore (L' := [some (.ref 56), some (.int (nI (fb_ct (WA N) t))), some (.int (nI t)), some (.int (nI 1)), some (.int (nI 0))]) d_M_worldMany_98 ⟨by decide, rfl⟩ rfl ?_
          exact loopb (N_n N) 0 g8 (by omega) (fun p c hp hc => by rw [e9 p c hp hc, if_neg (fun z => absurd z.1 (Nat.not_lt_zero _))]; rfl)
        have contF : ∀ (g8 : Nat → Int32), WA N t = false → (∀ p c, p < N_n N → c < N_n N → g8 (6 * p + c) = nI (fb_ct (fun t => WA N t && decide (prm (N_n N) t p = c)) t)) → ab_W Y_M_worldMany none l (fun r m2 h2 => r = some (.int (nI (ww N))) ∧ m2 = m ∧ ∃ g1 g2 g3 g8 : Nat → Int32, h2 = HK h (oM (N_n N) (N_ns N) (N_ra N) (N_se N) me mi (nI (TT (N_n N))) ve la tl at_ wr fe kp) g1 g2 g3 g8 ∧ ∀ p c, p < N_n N → c < N_n N → g8 (6 * p + c) = nI (wb N p c)) 97 [some (.ref 56), some (.int (nI (fb_ct (WA N) t))), some (.int (nI t)), some (.int (nI 0)), none] [] m (HK h (oM (N_n N) (N_ns N) (N_ra N) (N_se N) me mi (nI (TT (N_n N))) ve la tl at_ wr fe kp) g1 g2 g3 g8) (0, 0) := by
          intro g8 eA e9
          refine aw_iconst (v := nI 0) d_M_worldMany_97 (by decide) ?_
          refine aw_istore (L' := [some (.ref 56), some (.int (nI (fb_ct (WA N) t))), some (.int (nI t)), some (.int (nI 0)), some (.int (nI 0))]) d_M_worldMany_98 ⟨by decide, rfl⟩ rfl ?_
          refine aw_iload d_M_worldMany_100 rfl ?_
          refine aw_aload_n d_M_worldMany_102 rfl ?_
          refine aw_get (k := 0) d_M_worldMany_103 cl_Model k_M_118 (by decide) rfl rfl ?_
          refine aw_icmp_ge (tgt := 146) d_M_worldMany_106 (by decide) (fun c106 => ?_) (fun c106 => ?_)
          · refine aw_iload_n d_M_worldMany_146 rfl ?_
            refine aw_iload_n d_M_worldMany_147 rfl ?_
            refine aw_if_eq (tgt := 155) d_M_worldMany_148 (by decide) (fun c148 => ?_) (fun c148 => ?_)
            · refine aw_iconst (v := nI 0) d_M_worldMany_155 (by decide) ?_
              refine aw_iadd d_M_worldMany_156 ?_
              refine aw_topi (fun v157 ev157 => ?_)
              refine aw_istore_n (L' := [some (.ref 56), some (.int v157), some (.int (nI t)), some (.int (nI 0)), some (.int (nI 0))]) d_M_worldMany_157 ⟨by decide, rfl⟩ rfl ?_
              refine aw_iinc (v := nI (t + 1)) (L' := [some (.ref 56), some (.int v157), some (.int (nI (t + 1))), some (.int (nI 0)), some (.int (nI 0))]) d_M_worldMany_158 rfl (nI_1 _) ⟨by decide, rfl⟩ rfl ?_
              refine aw_goto (tgt := 33) d_M_worldMany_161 (by decide) ?_
              have e : fb_ct (WA N) (t + 1) = fb_ct (WA N) t := by rw [fb_ct_succ, eA]; rfl
              rw [ev157, nI_add, show fb_ct (WA N) t + 0 = fb_ct (WA N) (t + 1) from e.symm]
              exact aw_drop 3 (aw_drop 4 (ih (t + 1) g8 (by omega) (fun p c hp hc => by
                rw [e9 p c hp hc, fb_ct_succ, eA, Bool.false_and]; rfl)))
            · first | exact absurd c148 (by decide) | exact absurd (by decide) c148
          · refine aw_iload_n d_M_worldMany_109 rfl ?_
            refine aw_if_eq (tgt := 146) d_M_worldMany_110 (by decide) (fun c110 => ?_) (fun c110 => ?_)
            · refine aw_iload_n d_M_worldMany_146 rfl ?_
              refine aw_iload_n d_M_worldMany_147 rfl ?_
              refine aw_if_eq (tgt := 155) d_M_worldMany_148 (by decide) (fun c148 => ?_) (fun c148 => ?_)
              · refine aw_iconst (v := nI 0) d_M_worldMany_155 (by decide) ?_
                refine aw_iadd d_M_worldMany_156 ?_
                refine aw_topi (fun v157 ev157 => ?_)
                refine aw_istore_n (L' := [some (.ref 56), some (.int v157), some (.int (nI t)), some (.int (nI 0)), some (.int (nI 0))]) d_M_worldMany_157 ⟨by decide, rfl⟩ rfl ?_
                refine aw_iinc (v := nI (t + 1)) (L' := [some (.ref 56), some (.int v157), some (.int (nI (t + 1))), some (.int (nI 0)), some (.int (nI 0))]) d_M_worldMany_158 rfl (nI_1 _) ⟨by decide, rfl⟩ rfl ?_
                refine aw_goto (tgt := 33) d_M_worldMany_161 (by decide) ?_
                have e : fb_ct (WA N) (t + 1) = fb_ct (WA N) t := by rw [fb_ct_succ, eA]; rfl
                rw [ev157, nI_add, show fb_ct (WA N) t + 0 = fb_ct (WA N) (t + 1) from e.symm]
                exact aw_drop 3 (aw_drop 4 (ih (t + 1) g8 (by omega) (fun p c hp hc => by
                  rw [e9 p c hp hc, fb_ct_succ, eA, Bool.false_and]; rfl)))
              · first | exact absurd c148 (by decide) | exact absurd (by decide) c148
            · first | exact absurd c110 (by decide) | exact absurd (by decide) c110
        have loopa : ∀ ke w, w + ke = N_n N → ab_W Y_M_worldMany none l (fun r m2 h2 => r = some (.int (nI (ww N))) ∧ m2 = m ∧ ∃ g1 g2 g3 g8 : Nat → Int32, h2 = HK h (oM (N_n N) (N_ns N) (N_ra N) (N_se N) me mi (nI (TT (N_n N))) ve la tl at_ wr fe kp) g1 g2 g3 g8 ∧ ∀ p c, p < N_n N → c < N_n N → g8 (6 * p + c) = nI (wb N p c)) 46 [some (.ref 56), some (.int (nI (fb_ct (WA N) t))), some (.int (nI t)), some (.int (ab_bl (aok (w) (N_ma N) (prm (N_n N) t)))), some (.int (nI (w)))] [] m (HK h (oM (N_n N) (N_ns N) (N_ra N) (N_se N) me mi (nI (TT (N_n N))) ve la tl at_ wr fe kp) g1 g2 g3 g8) (0, 0) := by
          intro ke
          induction ke with
          | zero =>
            intro w hw 
            have hwn : N_n N = w := by omega
            subst hwn
            refine aw_iload d_M_worldMany_46 rfl ?_
            refine aw_aload_n d_M_worldMany_48 rfl ?_
            refine aw_get (k := 0) d_M_worldMany_49 cl_Model k_M_118 (by decide) rfl rfl ?_
            refine aw_icmp_ge (tgt := 97) d_M_worldMany_52 (by decide) (fun c52 => ?_) (fun c52 => ?_)
            · cases eA : aok (N_n N) (N_ma N) (prm (N_n N) t) with
              | true => exact aw_drop 4 (contT g8 eA e9)
              | false => exact aw_drop 4 (contF g8 eA e9)
            · exact absurd (Int32.le_refl _) c52
          | succ ke iha =>
            intro w hw 
            refine aw_iload d_M_worldMany_46 rfl ?_
            refine aw_aload_n d_M_worldMany_48 rfl ?_
            refine aw_get (k := 0) d_M_worldMany_49 cl_Model k_M_118 (by decide) rfl rfl ?_
            refine aw_icmp_ge (tgt := 97) d_M_worldMany_52 (by decide) (fun c52 => ?_) (fun c52 => ?_)
            · exact absurd c52 (nI_ge (by omega) (by omega))
            · refine aw_iload_n d_M_worldMany_55 rfl ?_
              refine aw_if_eq (tgt := 89) d_M_worldMany_56 (by decide) (fun c56 => ?_) (fun c56 => ?_)
              · refine aw_iconst (v := nI 0) d_M_worldMany_89 (by decide) ?_
                refine aw_istore_n (L' := [some (.ref 56), some (.int (nI (fb_ct (WA N) t))), some (.int (nI t)), some (.int (nI 0)), some (.int (nI (w)))]) d_M_worldMany_90 ⟨by decide, rfl⟩ rfl ?_
                refine aw_iinc (v := nI ((w) + 1)) (L' := [some (.ref 56), some (.int (nI (fb_ct (WA N) t))), some (.int (nI t)), some (.int (nI 0)), some (.int (nI ((w) + 1)))]) d_M_worldMany_91 rfl (nI_1 _) ⟨by decide, rfl⟩ rfl ?_
                refine aw_goto (tgt := 46) d_M_worldMany_94 (by decide) ?_
                have es := aok_s w (N_ma N) (prm (N_n N) t)
                first
                  | (rw [ab_bl_0.mp c56, Bool.false_and] at es
                     rw [show nI 0 = ab_bl (aok (w + 1) (N_ma N) (prm (N_n N) t)) by rw [es]; rfl]
                     exact iha (w + 1) (by omega))
                  | (rw [decide_eq_false (fun z => c82 (b_1.mpr z)), Bool.and_false] at es
                     rw [show nI 0 = ab_bl (aok (w + 1) (N_ma N) (prm (N_n N) t)) by rw [es]; rfl]
                     exact iha (w + 1) (by omega))
                  | (rw [ab_bl_1.mp c56, decide_eq_true (b_1.mp c82), Bool.true_and] at es
                     rw [show nI 1 = ab_bl (aok (w + 1) (N_ma N) (prm (N_n N) t)) by rw [es]; rfl]
                     exact iha (w + 1) (by omega))
              · refine aw_aload_n d_M_worldMany_59 rfl ?_
                refine aw_get (k := 7) d_M_worldMany_60 cl_Model k_M_28 (by decide) rfl rfl ?_
                refine aw_iload d_M_worldMany_63 rfl ?_
                refine aw_ialoadN d_M_worldMany_65 ha0 (by omega) (by decide) ?_
                rw [aa w (by omega)]
                refine aw_aload_n d_M_worldMany_66 rfl ?_
                refine aw_get (k := 18) d_M_worldMany_67 cl_Model k_M_50 (by decide) rfl rfl ?_
                refine aw_bipush (v := nI 6) d_M_worldMany_70 (by decide) ?_
                refine aw_iload_n d_M_worldMany_72 rfl ?_
                refine aw_imul d_M_worldMany_73 ?_
                refine aw_iload d_M_worldMany_74 rfl ?_
                refine aw_iadd d_M_worldMany_76 ?_
                rw [pk_mul, nI_add]
                refine aw_ialoadN d_M_worldMany_77 rfl (by omega) (by decide) ?_
                rw [hl.row (show t < TT (N_n N) by omega) (show w < N_n N by omega)]
                refine aw_ishr d_M_worldMany_78 ?_
                refine aw_iconst (v := nI 1) d_M_worldMany_79 (by decide) ?_
                refine aw_iand d_M_worldMany_80 ?_
                refine aw_iconst (v := nI 1) d_M_worldMany_81 (by decide) ?_
                have xw := hx.1.in hn6 hx.2.1 (show w < N_n N by omega)
                rw [b_at (by have := two_le6 hn6 (bma w (by omega)); omega) (by omega)]
                refine aw_icmp_ne (tgt := 89) d_M_worldMany_82 (by decide) (fun c82 => ?_) (fun c82 => ?_)
                · refine aw_iconst (v := nI 0) d_M_worldMany_89 (by decide) ?_
                  refine aw_istore_n (L' := [some (.ref 56), some (.int (nI (fb_ct (WA N) t))), some (.int (nI t)), some (.int (nI 0)), some (.int (nI (w)))]) d_M_worldMany_90 ⟨by decide, rfl⟩ rfl ?_
                  refine aw_iinc (v := nI ((w) + 1)) (L' := [some (.ref 56), some (.int (nI (fb_ct (WA N) t))), some (.int (nI t)), some (.int (nI 0)), some (.int (nI ((w) + 1)))]) d_M_worldMany_91 rfl (nI_1 _) ⟨by decide, rfl⟩ rfl ?_
                  refine aw_goto (tgt := 46) d_M_worldMany_94 (by decide) ?_
                  have es := aok_s w (N_ma N) (prm (N_n N) t)
                  first
                    | (rw [ab_bl_0.mp c56, Bool.false_and] at es
                       rw [show nI 0 = ab_bl (aok (w + 1) (N_ma N) (prm (N_n N) t)) by rw [es]; rfl]
                       exact iha (w + 1) (by omega))
                    | (rw [decide_eq_false (fun z => c82 (b_1.mpr z)), Bool.and_false] at es
                       rw [show nI 0 = ab_bl (aok (w + 1) (N_ma N) (prm (N_n N) t)) by rw [es]; rfl]
                       exact iha (w + 1) (by omega))
                    | (rw [ab_bl_1.mp c56, decide_eq_true (b_1.mp c82), Bool.true_and] at es
                       rw [show nI 1 = ab_bl (aok (w + 1) (N_ma N) (prm (N_n N) t)) by rw [es]; rfl]
                       exact iha (w + 1) (by omega))
                · refine aw_iconst (v := nI 1) d_M_worldMany_85 (by decide) ?_
                  refine aw_goto (tgt := 90) d_M_worldMany_86 (by decide) ?_
                  refine aw_istore_n (L' := [some (.ref 56), some (.int (nI (fb_ct (WA N) t))), some (.int (nI t)), some (.int (nI 1)), some (.int (nI (w)))]) d_M_worldMany_90 ⟨by decide, rfl⟩ rfl ?_
                  refine aw_iinc (v := nI ((w) + 1)) (L' := [some (.ref 56), some (.int (nI (fb_ct (WA N) t))), some (.int (nI t)), some (.int (nI 1)), some (.int (nI ((w) + 1)))]) d_M_worldMany_91 rfl (nI_1 _) ⟨by decide, rfl⟩ rfl ?_
                  refine aw_goto (tgt := 46) d_M_worldMany_94 (by decide) ?_
                  have es := aok_s w (N_ma N) (prm (N_n N) t)
                  first
                    | (rw [ab_bl_0.mp c56, Bool.false_and] at es
                       rw [show nI 0 = ab_bl (aok (w + 1) (N_ma N) (prm (N_n N) t)) by rw [es]; rfl]
                       exact iha (w + 1) (by omega))
                    | (rw [decide_eq_false (fun z => c82 (b_1.mpr z)), Bool.and_false] at es
                       rw [show nI 0 = ab_bl (aok (w + 1) (N_ma N) (prm (N_n N) t)) by rw [es]; rfl]
                       exact iha (w + 1) (by omega))
                    | (rw [ab_bl_1.mp c56, decide_eq_true (b_1.mp c82), Bool.true_and] at es
                       rw [show nI 1 = ab_bl (aok (w + 1) (N_ma N) (prm (N_n N) t)) by rw [es]; rfl]
                       exact iha (w + 1) (by omega))
        have z := loopa (N_n N) 0 (by omega)
        exact z
  have loop0 : ∀ kf j (g8 : Nat → Int32), j + kf = 36 → (∀ k, k < j → g8 k = nI 0) → ab_W Y_M_worldMany none l (fun r m2 h2 => r = some (.int (nI (ww N))) ∧ m2 = m ∧ ∃ g1 g2 g3 g8 : Nat → Int32, h2 = HK h (oM (N_n N) (N_ns N) (N_ra N) (N_se N) me mi (nI (TT (N_n N))) ve la tl at_ wr fe kp) g1 g2 g3 g8 ∧ ∀ p c, p < N_n N → c < N_n N → g8 (6 * p + c) = nI (wb N p c)) 10 [some (.ref 56), some (.int (nI (j))), none, none, none] [] m (HK h (oM (N_n N) (N_ns N) (N_ra N) (N_se N) me mi (nI (TT (N_n N))) ve la tl at_ wr fe kp) g1 g2 g3 g8) (0, 0) := by
    intro kf
    induction kf with
    | zero =>
      intro j g8 hj e0
      have hjn : 36 = j := by omega
      subst hjn
      refine aw_iload_n d_M_worldMany_10 rfl ?_
      refine aw_bipush (v := nI 36) d_M_worldMany_11 (by decide) ?_
      refine aw_icmp_ge (tgt := 29) d_M_worldMany_13 (by decide) (fun c13 => ?_) (fun c13 => ?_)
      · refine aw_iconst (v := nI 0) d_M_worldMany_29 (by decide) ?_
        refine aw_istore_n (L' := [some (.ref 56), some (.int (nI 0)), none, none, none]) d_M_worldMany_30 ⟨by decide, rfl⟩ rfl ?_
        refine aw_iconst (v := nI 0) d_M_worldMany_31 (by decide) ?_
        refine aw_istore_n (L' := [some (.ref 56), some (.int (nI 0)), some (.int (nI 0)), none, none]) d_M_worldMany_32 ⟨by decide, rfl⟩ rfl ?_
        exact loopt (TT (N_n N)) 0 g8 (by omega) (fun p c hp hc => e0 _ (by omega))
      · exact absurd (Int32.le_refl _) c13
    | succ kf ih =>
      intro j g8 hj e0
      refine aw_iload_n d_M_worldMany_10 rfl ?_
      refine aw_bipush (v := nI 36) d_M_worldMany_11 (by decide) ?_
      refine aw_icmp_ge (tgt := 29) d_M_worldMany_13 (by decide) (fun c13 => ?_) (fun c13 => ?_)
      · exact absurd c13 (nI_ge (by omega) (by omega))
      · refine aw_aload_n d_M_worldMany_16 rfl ?_
        refine aw_get (k := 33) d_M_worldMany_17 cl_Model k_M_85 (by decide) rfl rfl ?_
        refine aw_iload_n d_M_worldMany_20 rfl ?_
        refine aw_iconst (v := nI 0) d_M_worldMany_21 (by decide) ?_
        refine aw_iastoreN d_M_worldMany_22 rfl (by omega) (by decide) ?_
        refine aw_iinc (v := nI ((j) + 1)) (L' := [some (.ref 56), some (.int (nI ((j) + 1))), none, none, none]) d_M_worldMany_23 rfl (nI_1 _) ⟨by decide, rfl⟩ rfl ?_
        refine aw_goto (tgt := 10) d_M_worldMany_26 (by decide) ?_
        rw [hk_set]
        exact ih (j + 1) _ (by omega) (fun k hk => by
          by_cases e : k = j
          · subst e; exact pk_us
          · rw [pk_un e]; exact e0 k (by omega))
  exact aw_heap (ab_set_eq (h := HL h (oM (N_n N) (N_ns N) (N_ra N) (N_se N) me mi (nI (TT (N_n N))) ve la tl at_ wr fe kp) g1 g2 g3) (a := 78) h78) (loop0 36 0 d8 (by omega) (fun k hk => absurd hk (Nat.not_lt_zero _)))
