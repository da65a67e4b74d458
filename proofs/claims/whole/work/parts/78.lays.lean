/-- the heap behind lays: the reference, one, rows, numberOf -/
abbrev HL (h : ab_H) (e : ab_E) (g1 g2 g3 : Nat → Int32) : ab_H := ab_set (ab_set (ab_set (ab_set h 56 e) 67 (.inl (6, g1))) 68 (.inl (4320, g2))) 69 (.inl (46656, g3))
theorem hl_69 (h : ab_H) (e : ab_E) (g1 g2 g3 g : Nat → Int32) : ab_set (HL h e g1 g2 g3) 69 (.inl (46656, g)) = HL h e g1 g2 g := ab_set_set _ _ _ _
theorem hl_68 (h : ab_H) (e : ab_E) (g1 g2 g3 g : Nat → Int32) : ab_set (HL h e g1 g2 g3) 68 (.inl (4320, g)) = HL h e g1 g g3 := by
  unfold HL
  rw [ab_set_swap (show 69 ≠ 68 by decide), ab_set_set]
theorem hl_67 (h : ab_H) (e : ab_E) (g1 g2 g3 g : Nat → Int32) : ab_set (HL h e g1 g2 g3) 67 (.inl (6, g)) = HL h e g g2 g3 := by
  unfold HL
  rw [ab_set_swap (show 69 ≠ 67 by decide), ab_set_swap (show 68 ≠ 67 by decide), ab_set_set]
theorem hl_56 (h : ab_H) (e e2 : ab_E) (g1 g2 g3 : Nat → Int32) : ab_set (HL h e g1 g2 g3) 56 e2 = HL h e2 g1 g2 g3 := by
  unfold HL
  rw [ab_set_swap (show 69 ≠ 56 by decide), ab_set_swap (show 68 ≠ 56 by decide), ab_set_swap (show 67 ≠ 56 by decide), ab_set_set]
theorem hl_h {h : ab_H} {e : ab_E} {g1 g2 g3 : Nat → Int32} (h0 : h 56 = e) (h1 : h 67 = .inl (6, g1)) (h2 : h 68 = .inl (4320, g2)) (h3 : h 69 = .inl (46656, g3)) : HL h e g1 g2 g3 = h := by
  unfold HL
  rw [ab_set_eq h0, ab_set_eq h1, ab_set_eq h2, ab_set_eq h3]
/-- what is laid of the codes below c -/
def LY (n c : Nat) (g2 g3 : Nat → Int32) : Prop := ∀ b, b < c → okc n b = true → g3 b = nI (fb_ct (okc n) b) ∧ ∀ k, k < n → g2 (6 * fb_ct (okc n) b + k) = nI (prc n b k)
theorem LY.row {n : Nat} {g2 g3 : Nat → Int32} (h : LY n (6 ^ n) g2 g3) {t : Nat} (ht : t < TT n) {k : Nat} (hk : k < n) : g2 (6 * t + k) = nI (prm n t k) := by
  have q := nth_t ht
  have := (h _ q.1 q.2.1).2 k hk
  rw [q.2.2] at this
  exact this
theorem LY.num {n : Nat} (hn : n ≤ 6) {g2 g3 : Nat → Int32} (h : LY n (6 ^ n) g2 g3) {x : Nat → Nat} (hx : Pm x) (hf : ∀ k, n ≤ k → x k = k) : g3 (cd x n) = nI (num n x) := by
  obtain ⟨a, b, c⟩ := pm_okc hn hx hf
  exact (h _ b a).1
theorem p6n {n : Nat} (hn : n ≤ 6) : 6 ^ n ≤ 46656 := Nat.pow_le_pow_right (by decide) hn
theorem c_lays {m : Nat} {h : ab_H} {n ns ra se : Nat} {me mi tab ve la : Int32} {tl : Nat} {at_ wr : Int32} {fe : Nat} {kp : Bool} (hM : h 56 = oM n ns ra se me mi tab ve la tl at_ wr fe kp) (hn : n ≤ 6) {g1 g2 g3 : Nat → Int32} (h1 : h 67 = .inl (6, g1)) (h2 : h 68 = .inl (4320, g2)) (h3 : h 69 = .inl (46656, g3)) : ab_C Y_M_lays [.ref 56, .int (nI n)] m h (fun r m2 h2 => r = none ∧ m2 = m ∧ ∃ g1 g2 g3 : Nat → Int32, h2 = HL h (oM n ns ra se me mi (nI (TT n)) ve la tl at_ wr fe kp) g1 g2 g3 ∧ LY n (6 ^ n) g2 g3) := by
  have h66 := p6n hn
  refine ab_C.of (L := [some (.ref 56), some (.int (nI n)), none, none, none, none, none, none, none]) rfl rfl (Nat.le_of_ble_eq_true rfl) (fun l => ?_)
  have loop : ∀ kf c (g1 g2 g3 : Nat → Int32), c + kf = 6 ^ n → LY n c g2 g3 → ab_W Y_M_lays none l (fun r m2 h2 => r = none ∧ m2 = m ∧ ∃ g1 g2 g3 : Nat → Int32, h2 = HL h (oM n ns ra se me mi (nI (TT n)) ve la tl at_ wr fe kp) g1 g2 g3 ∧ LY n (6 ^ n) g2 g3) 27 [some (.ref 56), some (.int (nI n)), some (.int (nI (6 ^ n))), some (.int (nI (c))), none, none, none, none, none] [] m (HL h (oM n ns ra se me mi (nI (fb_ct (okc n) (c))) ve la tl at_ wr fe kp) g1 g2 g3) (0, 0) := by
    intro kf
    induction kf with
    | zero =>
      intro c g1 g2 g3 hc ly
      have hcn : 6 ^ n = c := by omega
      subst hcn
      refine aw_iload_n d_M_lays_27 rfl ?_
      refine aw_iload_n d_M_lays_28 rfl ?_
      refine aw_icmp_ge (tgt := 185) d_M_lays_29 (by decide) (fun c29 => ?_) (fun c29 => ?_)
      · refine aw_return d_M_lays_185 rfl ?_
        exact ⟨rfl, rfl, g1, g2, g3, rfl, ly⟩
      · exact absurd (Int32.le_refl _) c29
    | succ kf ih =>
      intro c g1 g2 g3 hc ly
      refine aw_iload_n d_M_lays_27 rfl ?_
      refine aw_iload_n d_M_lays_28 rfl ?_
      refine aw_icmp_ge (tgt := 185) d_M_lays_29 (by decide) (fun c29 => ?_) (fun c29 => ?_)
      · exact absurd c29 (nI_ge (by omega) (by omega))
      · refine aw_iconst (v := nI 0) d_M_lays_32 (by decide) ?_
        refine aw_istore (L' := [some (.ref 56), some (.int (nI n)), some (.int (nI (6 ^ n))), some (.int (nI (c))), some (.int (nI 0)), none, none, none, none]) d_M_lays_33 ⟨by decide, rfl⟩ rfl ?_
        refine aw_iload_n d_M_lays_35 rfl ?_
        refine aw_istore (L' := [some (.ref 56), some (.int (nI n)), some (.int (nI (6 ^ n))), some (.int (nI (c))), some (.int (nI 0)), some (.int (nI (c))), none, none, none]) d_M_lays_36 ⟨by decide, rfl⟩ rfl ?_
        refine aw_iconst (v := nI 1) d_M_lays_38 (by decide) ?_
        refine aw_istore (L' := [some (.ref 56), some (.int (nI n)), some (.int (nI (6 ^ n))), some (.int (nI (c))), some (.int (nI 0)), some (.int (nI (c))), some (.int (nI 1)), none, none]) d_M_lays_39 ⟨by decide, rfl⟩ rfl ?_
        refine aw_iload_n d_M_lays_41 rfl ?_
        refine aw_iconst (v := nI 1) d_M_lays_42 (by decide) ?_
        refine aw_isub d_M_lays_43 ?_
        refine aw_topi (fun v44 ev44 => ?_)
        refine aw_istore (L' := [some (.ref 56), some (.int (nI n)), some (.int (nI (6 ^ n))), some (.int (nI (c))), some (.int (nI 0)), some (.int (nI (c))), some (.int (nI 1)), some (.int v44), none]) d_M_lays_44 ⟨by decide, rfl⟩ rfl ?_
        have contN : ∀ (g1 : Nat → Int32), okc n c = false → ab_W Y_M_lays none l (fun r m2 h2 => r = none ∧ m2 = m ∧ ∃ g1 g2 g3 : Nat → Int32, h2 = HL h (oM n ns ra se me mi (nI (TT n)) ve la tl at_ wr fe kp) g1 g2 g3 ∧ LY n (6 ^ n) g2 g3) 117 [some (.ref 56), some (.int (nI n)), some (.int (nI (6 ^ n))), some (.int (nI c)), none, none, some (.int (nI 0)), none, none] [] m (HL h (oM n ns ra se me mi (nI (fb_ct (okc n) c)) ve la tl at_ wr fe kp) g1 g2 g3) (0, 0) := by
          intro g1 no
          refine aw_iload d_M_lays_117 rfl ?_
          refine aw_if_eq (tgt := 179) d_M_lays_119 (by decide) (fun c119 => ?_) (fun c119 => ?_)
          · refine aw_iinc (v := nI (c + 1)) (L' := [some (.ref 56), some (.int (nI n)), some (.int (nI (6 ^ n))), some (.int (nI (c + 1))), none, none, some (.int (nI 0)), none, none]) d_M_lays_179 rfl (nI_1 _) ⟨by decide, rfl⟩ rfl ?_
            refine aw_goto (tgt := 27) d_M_lays_182 (by decide) ?_
            have e : fb_ct (okc n) (c + 1) = fb_ct (okc n) c := by rw [fb_ct_succ, no]; rfl
            rw [← e]
            exact aw_drop 6 (ih (c + 1) g1 g2 g3 (by omega) (fun b hb hk => by
              by_cases z : b = c
              · subst z; rw [no] at hk; cases hk
              · exact ly b (by omega) hk))
          · first | exact absurd c119 (by decide) | exact absurd (by decide) c119
        have contY : ∀ (g1 : Nat → Int32), okc n c = true → (∀ k, k < n → g1 k = nI (prc n c k)) → ab_W Y_M_lays none l (fun r m2 h2 => r = none ∧ m2 = m ∧ ∃ g1 g2 g3 : Nat → Int32, h2 = HL h (oM n ns ra se me mi (nI (TT n)) ve la tl at_ wr fe kp) g1 g2 g3 ∧ LY n (6 ^ n) g2 g3) 117 [some (.ref 56), some (.int (nI n)), some (.int (nI (6 ^ n))), some (.int (nI c)), none, none, some (.int (nI 1)), none, none] [] m (HL h (oM n ns ra se me mi (nI (fb_ct (okc n) c)) ve la tl at_ wr fe kp) g1 g2 g3) (0, 0) := by
          intro g1 yes o1
          have hlt : fb_ct (okc n) c < 720 := Nat.lt_of_lt_of_le (ct_lt yes (show c < 6 ^ n by omega)) (TT_le hn).1
          have loopr : ∀ ke q (g2 : Nat → Int32), q + ke = n → (∀ k, k < q → g2 (6 * fb_ct (okc n) c + k) = nI (prc n c k)) → LY n c g2 g3 → ab_W Y_M_lays none l (fun r m2 h2 => r = none ∧ m2 = m ∧ ∃ g1 g2 g3 : Nat → Int32, h2 = HL h (oM n ns ra se me mi (nI (TT n)) ve la tl at_ wr fe kp) g1 g2 g3 ∧ LY n (6 ^ n) g2 g3) 125 [some (.ref 56), some (.int (nI n)), some (.int (nI (6 ^ n))), some (.int (nI c)), none, none, some (.int (nI 1)), some (.int (nI (q))), none] [] m (HL h (oM n ns ra se me mi (nI (fb_ct (okc n) c)) ve la tl at_ wr fe kp) g1 g2 g3) (0, 0) := by
            intro ke
            induction ke with
            | zero =>
              intro q g2 hq e0 e1
              have hqn : n = q := by omega
              subst hqn
              refine aw_iload d_M_lays_125 rfl ?_
              refine aw_iload_n d_M_lays_127 rfl ?_
              refine aw_icmp_ge (tgt := 159) d_M_lays_128 (by decide) (fun c128 => ?_) (fun c128 => ?_)
              · refine aw_aload_n d_M_lays_159 rfl ?_
                refine aw_get (k := 19) d_M_lays_160 cl_Model k_M_54 (by decide) rfl rfl ?_
                refine aw_iload_n d_M_lays_163 rfl ?_
                refine aw_aload_n d_M_lays_164 rfl ?_
                refine aw_get (k := 17) d_M_lays_165 cl_Model k_M_220 (by decide) rfl rfl ?_
                refine aw_iastoreN d_M_lays_168 rfl (by omega) (by decide) ?_
                rw [hl_69]
                refine aw_aload_n d_M_lays_169 rfl ?_
                refine aw_dup d_M_lays_170 rfl ?_
                refine aw_get (k := 17) d_M_lays_171 cl_Model k_M_220 (by decide) rfl rfl ?_
                refine aw_iconst (v := nI 1) d_M_lays_174 (by decide) ?_
                refine aw_iadd d_M_lays_175 ?_
                rw [nI_add]
                refine aw_put (k := 17) (fs' := [.int (nI n), .ref 57, .ref 58, .ref 59, .ref 60, .ref 61, .ref 62, .ref 63, .int (nI ns), .ref 64, .ref 65, .int (nI ra), .int (nI se), .int me, .int mi, .ref 66, .ref 67, .int (nI (fb_ct (okc n) c + 1)), .ref 68, .ref 69, .ref 70, .ref 71, .ref 72, .ref 73, .ref 74, .int ve, .int la, .ref 75, .ref 76, .int (nI tl), .int at_, .int wr, .ref 77, .ref 78, .int (nI fe), .ref 79, .ref 80, .ref 81, .ref 82, .ref 83, .ref 84, .int (ab_bl kp), .ref 85, .ref 86, .ref 87, .ref 88]) d_M_lays_176 cl_Model k_M_220 (by decide) rfl ⟨rfl, rfl⟩ rfl (Nat.le_of_ble_eq_true rfl) rfl ?_
                refine aw_iinc (v := nI (c + 1)) (L' := [some (.ref 56), some (.int (nI n)), some (.int (nI (6 ^ n))), some (.int (nI (c + 1))), none, none, some (.int (nI 1)), some (.int (nI (n))), none]) d_M_lays_179 rfl (nI_1 _) ⟨by decide, rfl⟩ rfl ?_
                refine aw_goto (tgt := 27) d_M_lays_182 (by decide) ?_
                have e : fb_ct (okc n) (c + 1) = fb_ct (okc n) c + 1 := by rw [fb_ct_succ, yes]; rfl
                rw [hl_56, ← e]
                exact aw_drop 6 (aw_drop 7 (ih (c + 1) g1 g2 _ (by omega) (fun b hb hk => by
                  by_cases z : b = c
                  · subst z; exact ⟨pk_us, e0⟩
                  · rw [pk_un z]; exact e1 b (by omega) hk)))
              · exact absurd (Int32.le_refl _) c128
            | succ ke ihr =>
              intro q g2 hq e0 e1
              refine aw_iload d_M_lays_125 rfl ?_
              refine aw_iload_n d_M_lays_127 rfl ?_
              refine aw_icmp_ge (tgt := 159) d_M_lays_128 (by decide) (fun c128 => ?_) (fun c128 => ?_)
              · exact absurd c128 (nI_ge (by omega) (by omega))
              · refine aw_aload_n d_M_lays_131 rfl ?_
                refine aw_get (k := 18) d_M_lays_132 cl_Model k_M_50 (by decide) rfl rfl ?_
                refine aw_bipush (v := nI 6) d_M_lays_135 (by decide) ?_
                refine aw_aload_n d_M_lays_137 rfl ?_
                refine aw_get (k := 17) d_M_lays_138 cl_Model k_M_220 (by decide) rfl rfl ?_
                refine aw_imul d_M_lays_141 ?_
                refine aw_iload d_M_lays_142 rfl ?_
                refine aw_iadd d_M_lays_144 ?_
                rw [pk_mul, nI_add]
                refine aw_aload_n d_M_lays_145 rfl ?_
                refine aw_get (k := 16) d_M_lays_146 cl_Model k_M_47 (by decide) rfl rfl ?_
                refine aw_iload d_M_lays_149 rfl ?_
                refine aw_ialoadN d_M_lays_151 rfl (by omega) (by decide) ?_
                refine aw_iastoreN d_M_lays_152 rfl (by omega) (by decide) ?_
                refine aw_iinc (v := nI ((q) + 1)) (L' := [some (.ref 56), some (.int (nI n)), some (.int (nI (6 ^ n))), some (.int (nI c)), none, none, some (.int (nI 1)), some (.int (nI ((q) + 1))), none]) d_M_lays_153 rfl (nI_1 _) ⟨by decide, rfl⟩ rfl ?_
                refine aw_goto (tgt := 125) d_M_lays_156 (by decide) ?_
                rw [hl_68, o1 q (by omega)]
                exact ihr (q + 1) _ (by omega) (fun k hk => by
                  by_cases e : k = q
                  · subst e; exact pk_us
                  · rw [pk_un (by omega)]; exact e0 k (by omega)) (fun b hb hk => by
                    have hl := ct_lt hk hb
                    refine ⟨(e1 b hb hk).1, fun k2 hk2 => ?_⟩
                    rw [pk_un (by omega)]
                    exact (e1 b hb hk).2 k2 hk2)
          refine aw_iload d_M_lays_117 rfl ?_
          refine aw_if_eq (tgt := 179) d_M_lays_119 (by decide) (fun c119 => ?_) (fun c119 => ?_)
          · first | exact absurd c119 (by decide) | exact absurd (by decide) c119
          · refine aw_iconst (v := nI 0) d_M_lays_122 (by decide) ?_
            refine aw_istore (L' := [some (.ref 56), some (.int (nI n)), some (.int (nI (6 ^ n))), some (.int (nI c)), none, none, some (.int (nI 1)), some (.int (nI 0)), none]) d_M_lays_123 ⟨by decide, rfl⟩ rfl ?_
            exact loopr n 0 g2 (by omega) (fun k hk => absurd hk (Nat.not_lt_zero _)) ly
        have bad46 : ∀ (g1 : Nat → Int32) (a b c2 d : Int32), okc n c = false → ab_W Y_M_lays none l (fun r m2 h2 => r = none ∧ m2 = m ∧ ∃ g1 g2 g3 : Nat → Int32, h2 = HL h (oM n ns ra se me mi (nI (TT n)) ve la tl at_ wr fe kp) g1 g2 g3 ∧ LY n (6 ^ n) g2 g3) 46 [some (.ref 56), some (.int (nI n)), some (.int (nI (6 ^ n))), some (.int (nI c)), some (.int a), some (.int b), some (.int (nI 0)), some (.int c2), some (.int d)] [] m (HL h (oM n ns ra se me mi (nI (fb_ct (okc n) c)) ve la tl at_ wr fe kp) g1 g2 g3) (0, 0) := by
          intro g1 a b c2 d no
          refine aw_iload d_M_lays_46 rfl ?_
          refine aw_if_lt (tgt := 117) d_M_lays_48 (by decide) (fun c48 => ?_) (fun c48 => ?_)
          · exact aw_drop 4 (aw_drop 5 (aw_drop 7 (aw_drop 8 (contN g1 no))))
          · refine aw_iload d_M_lays_51 rfl ?_
            refine aw_if_eq (tgt := 117) d_M_lays_53 (by decide) (fun c53 => ?_) (fun c53 => ?_)
            · exact aw_drop 4 (aw_drop 5 (aw_drop 7 (aw_drop 8 (contN g1 no))))
            · first | exact absurd c53 (by decide) | exact absurd (by decide) c53
        have loopd : ∀ (r j : Nat) (g1 : Nat → Int32), j + r = n → okd n c j = true → (∀ i, i < j → g1 (n - 1 - i) = nI (dgt c i)) → ab_W Y_M_lays none l (fun r m2 h2 => r = none ∧ m2 = m ∧ ∃ g1 g2 g3 : Nat → Int32, h2 = HL h (oM n ns ra se me mi (nI (TT n)) ve la tl at_ wr fe kp) g1 g2 g3 ∧ LY n (6 ^ n) g2 g3) 46 [some (.ref 56), some (.int (nI n)), some (.int (nI (6 ^ n))), some (.int (nI c)), some (.int (nI (sn (dgt c) j))), some (.int (nI (c / 6 ^ j))), some (.int (nI 1)), some (.int (nI r - nI 1)), none] [] m (HL h (oM n ns ra se me mi (nI (fb_ct (okc n) c)) ve la tl at_ wr fe kp) g1 g2 g3) (0, 0) := by
          intro r
          induction r with
          | zero =>
            intro j g1 hj okj eg
            have hjn : j = n := by omega
            subst hjn
            refine aw_iload d_M_lays_46 rfl ?_
            refine aw_if_lt (tgt := 117) d_M_lays_48 (by decide) (fun c48 => ?_) (fun c48 => ?_)
            · exact aw_drop 4 (aw_drop 5 (aw_drop 7 (contY g1 okj (fun k hk => by
                have := eg (j - 1 - k) (by omega)
                rw [show j - 1 - (j - 1 - k) = k by omega] at this
                rw [this]
                unfold prc
                rw [if_pos hk]))))
            · exact absurd nI_1lt c48
          | succ r ihd =>
            intro j g1 hj okj eg
            rw [show nI (r + 1) - nI 1 = nI r from nI_pred r]
            have hdl := dgt_lt c j
            have hsn : sn (dgt c) j < 64 := sn_lt j (fun k _ => dgt_lt c k)
            have hcj : c / 6 ^ j ≤ c := Nat.div_le_self _ _
            refine aw_iload d_M_lays_46 rfl ?_
            refine aw_if_lt (tgt := 117) d_M_lays_48 (by decide) (fun c48 => ?_) (fun c48 => ?_)
            · exact absurd c48 (nI_n0 (by omega))
            · refine aw_iload d_M_lays_51 rfl ?_
              refine aw_if_eq (tgt := 117) d_M_lays_53 (by decide) (fun c53 => ?_) (fun c53 => ?_)
              · first | exact absurd c53 (by decide) | exact absurd (by decide) c53
              · refine aw_iload d_M_lays_56 rfl ?_
                refine aw_bipush (v := nI 6) d_M_lays_58 (by decide) ?_
                refine aw_irem d_M_lays_60 (by decide) ?_
                rw [rm (by omega) (by decide) (by decide), show c / 6 ^ j % 6 = dgt c j from rfl]
                refine aw_istore (L' := [some (.ref 56), some (.int (nI n)), some (.int (nI (6 ^ n))), some (.int (nI c)), some (.int (nI (sn (dgt c) j))), some (.int (nI (c / 6 ^ j))), some (.int (nI 1)), some (.int (nI r)), some (.int (nI (dgt c j)))]) d_M_lays_61 ⟨by decide, rfl⟩ rfl ?_
                refine aw_iload d_M_lays_63 rfl ?_
                refine aw_bipush (v := nI 6) d_M_lays_65 (by decide) ?_
                refine aw_idiv d_M_lays_67 (by decide) ?_
                rw [dv (by omega) (by decide) (by decide), Nat.div_div_eq_div_mul, show 6 ^ j * 6 = 6 ^ (j + 1) from (Nat.pow_succ 6 j).symm]
                refine aw_istore (L' := [some (.ref 56), some (.int (nI n)), some (.int (nI (6 ^ n))), some (.int (nI c)), some (.int (nI (sn (dgt c) j))), some (.int (nI (c / 6 ^ (j + 1)))), some (.int (nI 1)), some (.int (nI r)), some (.int (nI (dgt c j)))]) d_M_lays_68 ⟨by decide, rfl⟩ rfl ?_
                refine aw_iload d_M_lays_70 rfl ?_
                refine aw_iload_n d_M_lays_72 rfl ?_
                refine aw_icmp_ge (tgt := 90) d_M_lays_73 (by decide) (fun c73 => ?_) (fun c73 => ?_)
                · refine aw_iconst (v := nI 0) d_M_lays_90 (by decide) ?_
                  refine aw_istore (L' := [some (.ref 56), some (.int (nI n)), some (.int (nI (6 ^ n))), some (.int (nI c)), some (.int (nI (sn (dgt c) j))), some (.int (nI (c / 6 ^ (j + 1)))), some (.int (nI 0)), some (.int (nI r)), some (.int (nI (dgt c j)))]) d_M_lays_91 ⟨by decide, rfl⟩ rfl ?_
                  refine aw_iload d_M_lays_93 rfl ?_
                  refine aw_iconst (v := nI 1) d_M_lays_95 (by decide) ?_
                  refine aw_iload d_M_lays_96 rfl ?_
                  refine aw_ishl d_M_lays_98 ?_
                  refine aw_ior d_M_lays_99 ?_
                  rw [b_one (by omega), fa_or]
                  refine aw_istore (L' := [some (.ref 56), some (.int (nI n)), some (.int (nI (6 ^ n))), some (.int (nI c)), some (.int (nI (sn (dgt c) (j + 1)))), some (.int (nI (c / 6 ^ (j + 1)))), some (.int (nI 0)), some (.int (nI r)), some (.int (nI (dgt c j)))]) d_M_lays_100 ⟨by decide, rfl⟩ rfl ?_
                  refine aw_aload_n d_M_lays_102 rfl ?_
                  refine aw_get (k := 16) d_M_lays_103 cl_Model k_M_47 (by decide) rfl rfl ?_
                  refine aw_iload d_M_lays_106 rfl ?_
                  refine aw_iload d_M_lays_108 rfl ?_
                  refine aw_iastoreN d_M_lays_110 rfl (by omega) (by decide) ?_
                  obtain ⟨v111, ev111⟩ : ∃ z : Int32, z = nI r + Int32.ofInt (-1) := ⟨_, rfl⟩
                  refine aw_iinc (v := v111) (L' := [some (.ref 56), some (.int (nI n)), some (.int (nI (6 ^ n))), some (.int (nI c)), some (.int (nI (sn (dgt c) (j + 1)))), some (.int (nI (c / 6 ^ (j + 1)))), some (.int (nI 0)), some (.int v111), some (.int (nI (dgt c j)))]) d_M_lays_111 rfl ev111.symm ⟨by decide, rfl⟩ rfl ?_
                  refine aw_goto (tgt := 46) d_M_lays_114 (by decide) ?_
                  rw [hl_67, ev111, nI_dec]
                  first
                    | (have okj2 : okd n c (j + 1) = true := by
                         unfold okd
                         rw [okj, Bool.true_and, Bool.and_eq_true]
                         exact ⟨decide_eq_true (Nat.not_le.mp (fun z => c73 (nI_le z (by omega)))), by rw [Bool.not_eq_true', decide_eq_false_iff_not]; exact b_z.mp c83⟩
                       exact aw_drop 8 (ihd (j + 1) _ (by omega) okj2 (fun i hi => by
                         by_cases e : i = j
                         · subst e; rw [show n - 1 - i = r by omega]; exact pk_us
                         · rw [pk_un (by omega)]; exact eg i (by omega))))
                    | (refine bad46 _ _ _ _ _ (Bool.eq_false_iff.mpr (fun z => ?_))
                       have z := (okd_iff n c n).mp z j (by omega)
                       first
                         | exact absurd ((nI_leI (by omega) (by omega)).mp c73) (by omega)
                         | (obtain ⟨q, hq, eq⟩ := (sn_bit _ _ _).mp (b_nz.mp c83)
                            exact z.2 q hq eq))
                · refine aw_iload d_M_lays_76 rfl ?_
                  refine aw_iload d_M_lays_78 rfl ?_
                  refine aw_ishr d_M_lays_80 ?_
                  refine aw_iconst (v := nI 1) d_M_lays_81 (by decide) ?_
                  refine aw_iand d_M_lays_82 ?_
                  rw [b_at (by omega) (by omega)]
                  refine aw_if_ne (tgt := 90) d_M_lays_83 (by decide) (fun c83 => ?_) (fun c83 => ?_)
                  · refine aw_iconst (v := nI 0) d_M_lays_90 (by decide) ?_
                    refine aw_istore (L' := [some (.ref 56), some (.int (nI n)), some (.int (nI (6 ^ n))), some (.int (nI c)), some (.int (nI (sn (dgt c) j))), some (.int (nI (c / 6 ^ (j + 1)))), some (.int (nI 0)), some (.int (nI r)), some (.int (nI (dgt c j)))]) d_M_lays_91 ⟨by decide, rfl⟩ rfl ?_
                    refine aw_iload d_M_lays_93 rfl ?_
                    refine aw_iconst (v := nI 1) d_M_lays_95 (by decide) ?_
                    refine aw_iload d_M_lays_96 rfl ?_
                    refine aw_ishl d_M_lays_98 ?_
                    refine aw_ior d_M_lays_99 ?_
                    rw [b_one (by omega), fa_or]
                    refine aw_istore (L' := [some (.ref 56), some (.int (nI n)), some (.int (nI (6 ^ n))), some (.int (nI c)), some (.int (nI (sn (dgt c) (j + 1)))), some (.int (nI (c / 6 ^ (j + 1)))), some (.int (nI 0)), some (.int (nI r)), some (.int (nI (dgt c j)))]) d_M_lays_100 ⟨by decide, rfl⟩ rfl ?_
                    refine aw_aload_n d_M_lays_102 rfl ?_
                    refine aw_get (k := 16) d_M_lays_103 cl_Model k_M_47 (by decide) rfl rfl ?_
                    refine aw_iload d_M_lays_106 rfl ?_
                    refine aw_iload d_M_lays_108 rfl ?_
                    refine aw_iastoreN d_M_lays_110 rfl (by omega) (by decide) ?_
                    obtain ⟨v111, ev111⟩ : ∃ z : Int32, z = nI r + Int32.ofInt (-1) := ⟨_, rfl⟩
                    refine aw_iinc (v := v111) (L' := [some (.ref 56), some (.int (nI n)), some (.int (nI (6 ^ n))), some (.int (nI c)), some (.int (nI (sn (dgt c) (j + 1)))), some (.int (nI (c / 6 ^ (j + 1)))), some (.int (nI 0)), some (.int v111), some (.int (nI (dgt c j)))]) d_M_lays_111 rfl ev111.symm ⟨by decide, rfl⟩ rfl ?_
                    refine aw_goto (tgt := 46) d_M_lays_114 (by decide) ?_
                    rw [hl_67, ev111, nI_dec]
                    first
                      | (have okj2 : okd n c (j + 1) = true := by
                           unfold okd
                           rw [okj, Bool.true_and, Bool.and_eq_true]
                           exact ⟨decide_eq_true (Nat.not_le.mp (fun z => c73 (nI_le z (by omega)))), by rw [Bool.not_eq_true', decide_eq_false_iff_not]; exact b_z.mp c83⟩
                         exact aw_drop 8 (ihd (j + 1) _ (by omega) okj2 (fun i hi => by
                           by_cases e : i = j
                           · subst e; rw [show n - 1 - i = r by omega]; exact pk_us
                           · rw [pk_un (by omega)]; exact eg i (by omega))))
                      | (refine bad46 _ _ _ _ _ (Bool.eq_false_iff.mpr (fun z => ?_))
                         have z := (okd_iff n c n).mp z j (by omega)
                         first
                           | exact absurd ((nI_leI (by omega) (by omega)).mp c73) (by omega)
                           | (obtain ⟨q, hq, eq⟩ := (sn_bit _ _ _).mp (b_nz.mp c83)
                              exact z.2 q hq eq))
                  · refine aw_iconst (v := nI 1) d_M_lays_86 (by decide) ?_
                    refine aw_goto (tgt := 91) d_M_lays_87 (by decide) ?_
                    refine aw_istore (L' := [some (.ref 56), some (.int (nI n)), some (.int (nI (6 ^ n))), some (.int (nI c)), some (.int (nI (sn (dgt c) j))), some (.int (nI (c / 6 ^ (j + 1)))), some (.int (nI 1)), some (.int (nI r)), some (.int (nI (dgt c j)))]) d_M_lays_91 ⟨by decide, rfl⟩ rfl ?_
                    refine aw_iload d_M_lays_93 rfl ?_
                    refine aw_iconst (v := nI 1) d_M_lays_95 (by decide) ?_
                    refine aw_iload d_M_lays_96 rfl ?_
                    refine aw_ishl d_M_lays_98 ?_
                    refine aw_ior d_M_lays_99 ?_
                    rw [b_one (by omega), fa_or]
                    refine aw_istore (L' := [some (.ref 56), some (.int (nI n)), some (.int (nI (6 ^ n))), some (.int (nI c)), some (.int (nI (sn (dgt c) (j + 1)))), some (.int (nI (c / 6 ^ (j + 1)))), some (.int (nI 1)), some (.int (nI r)), some (.int (nI (dgt c j)))]) d_M_lays_100 ⟨by decide, rfl⟩ rfl ?_
                    refine aw_aload_n d_M_lays_102 rfl ?_
                    refine aw_get (k := 16) d_M_lays_103 cl_Model k_M_47 (by decide) rfl rfl ?_
                    refine aw_iload d_M_lays_106 rfl ?_
                    refine aw_iload d_M_lays_108 rfl ?_
                    refine aw_iastoreN d_M_lays_110 rfl (by omega) (by decide) ?_
                    obtain ⟨v111, ev111⟩ : ∃ z : Int32, z = nI r + Int32.ofInt (-1) := ⟨_, rfl⟩
                    refine aw_iinc (v := v111) (L' := [some (.ref 56), some (.int (nI n)), some (.int (nI (6 ^ n))), some (.int (nI c)), some (.int (nI (sn (dgt c) (j + 1)))), some (.int (nI (c / 6 ^ (j + 1)))), some (.int (nI 1)), some (.int v111), some (.int (nI (dgt c j)))]) d_M_lays_111 rfl ev111.symm ⟨by decide, rfl⟩ rfl ?_
                    refine aw_goto (tgt := 46) d_M_lays_114 (by decide) ?_
                    rw [hl_67, ev111, nI_dec]
                    first
                      | (have okj2 : okd n c (j + 1) = true := by
                           unfold okd
                           rw [okj, Bool.true_and, Bool.and_eq_true]
                           exact ⟨decide_eq_true (Nat.not_le.mp (fun z => c73 (nI_le z (by omega)))), by rw [Bool.not_eq_true', decide_eq_false_iff_not]; exact b_z.mp c83⟩
                         exact aw_drop 8 (ihd (j + 1) _ (by omega) okj2 (fun i hi => by
                           by_cases e : i = j
                           · subst e; rw [show n - 1 - i = r by omega]; exact pk_us
                           · rw [pk_un (by omega)]; exact eg i (by omega))))
                      | (refine bad46 _ _ _ _ _ (Bool.eq_false_iff.mpr (fun z => ?_))
                         have z := (okd_iff n c n).mp z j (by omega)
                         first
                           | exact absurd ((nI_leI (by omega) (by omega)).mp c73) (by omega)
                           | (obtain ⟨q, hq, eq⟩ := (sn_bit _ _ _).mp (b_nz.mp c83)
                              exact z.2 q hq eq))
        rw [ev44]
        have z := loopd n 0 g1 (by omega) rfl (fun i hi => absurd hi (Nat.not_lt_zero _))
        rw [Nat.pow_zero, Nat.div_one] at z
        exact z
  have loop0 : ∀ kf j, j + kf = n → ab_W Y_M_lays none l (fun r m2 h2 => r = none ∧ m2 = m ∧ ∃ g1 g2 g3 : Nat → Int32, h2 = HL h (oM n ns ra se me mi (nI (TT n)) ve la tl at_ wr fe kp) g1 g2 g3 ∧ LY n (6 ^ n) g2 g3) 9 [some (.ref 56), some (.int (nI n)), some (.int (nI (6 ^ (j)))), some (.int (nI (j))), none, none, none, none, none] [] m (HL h (oM n ns ra se me mi (nI 0) ve la tl at_ wr fe kp) g1 g2 g3) (0, 0) := by
    intro kf
    induction kf with
    | zero =>
      intro j hj 
      have hjn : n = j := by omega
      subst hjn
      refine aw_iload_n d_M_lays_9 rfl ?_
      refine aw_iload_n d_M_lays_10 rfl ?_
      refine aw_icmp_ge (tgt := 25) d_M_lays_11 (by decide) (fun c11 => ?_) (fun c11 => ?_)
      · refine aw_iconst (v := nI 0) d_M_lays_25 (by decide) ?_
        refine aw_istore_n (L' := [some (.ref 56), some (.int (nI n)), some (.int (nI (6 ^ (n)))), some (.int (nI 0)), none, none, none, none, none]) d_M_lays_26 ⟨by decide, rfl⟩ rfl ?_
        exact loop (6 ^ n) 0 g1 g2 g3 (by omega) (fun b hb => absurd hb (Nat.not_lt_zero _))
      · exact absurd (Int32.le_refl _) c11
    | succ kf ih =>
      intro j hj 
      refine aw_iload_n d_M_lays_9 rfl ?_
      refine aw_iload_n d_M_lays_10 rfl ?_
      refine aw_icmp_ge (tgt := 25) d_M_lays_11 (by decide) (fun c11 => ?_) (fun c11 => ?_)
      · exact absurd c11 (nI_ge (by omega) (by omega))
      · refine aw_iload_n d_M_lays_14 rfl ?_
        refine aw_bipush (v := nI 6) d_M_lays_15 (by decide) ?_
        refine aw_imul d_M_lays_17 ?_
        rw [pk_mul, show 6 ^ j * 6 = 6 ^ (j + 1) from (Nat.pow_succ 6 j).symm]
        refine aw_istore_n (L' := [some (.ref 56), some (.int (nI n)), some (.int (nI (6 ^ (j + 1)))), some (.int (nI (j))), none, none, none, none, none]) d_M_lays_18 ⟨by decide, rfl⟩ rfl ?_
        refine aw_iinc (v := nI ((j) + 1)) (L' := [some (.ref 56), some (.int (nI n)), some (.int (nI (6 ^ (j + 1)))), some (.int (nI ((j) + 1))), none, none, none, none, none]) d_M_lays_19 rfl (nI_1 _) ⟨by decide, rfl⟩ rfl ?_
        refine aw_goto (tgt := 9) d_M_lays_22 (by decide) ?_
        exact ih (j + 1) (by omega)
  refine aw_aload_n d_M_lays_0 rfl ?_
  refine aw_iconst (v := nI 0) d_M_lays_1 (by decide) ?_
  refine aw_put (k := 17) (fs' := [.int (nI n), .ref 57, .ref 58, .ref 59, .ref 60, .ref 61, .ref 62, .ref 63, .int (nI ns), .ref 64, .ref 65, .int (nI ra), .int (nI se), .int me, .int mi, .ref 66, .ref 67, .int (nI 0), .ref 68, .ref 69, .ref 70, .ref 71, .ref 72, .ref 73, .ref 74, .int ve, .int la, .ref 75, .ref 76, .int (nI tl), .int at_, .int wr, .ref 77, .ref 78, .int (nI fe), .ref 79, .ref 80, .ref 81, .ref 82, .ref 83, .ref 84, .int (ab_bl kp), .ref 85, .ref 86, .ref 87, .ref 88]) d_M_lays_2 cl_Model k_M_220 (by decide) rfl ⟨rfl, rfl⟩ hM (Nat.le_of_ble_eq_true rfl) rfl ?_
  refine aw_iconst (v := nI 1) d_M_lays_5 (by decide) ?_
  refine aw_istore_n (L' := [some (.ref 56), some (.int (nI n)), some (.int (nI 1)), none, none, none, none, none, none]) d_M_lays_6 ⟨by decide, rfl⟩ rfl ?_
  refine aw_iconst (v := nI 0) d_M_lays_7 (by decide) ?_
  refine aw_istore_n (L' := [some (.ref 56), some (.int (nI n)), some (.int (nI 1)), some (.int (nI 0)), none, none, none, none, none]) d_M_lays_8 ⟨by decide, rfl⟩ rfl ?_
  have e56 : ∀ e, ab_set h 56 e = HL h e g1 g2 g3 := fun e => by
    have z := hl_56 h (h 56) e g1 g2 g3
    rw [hl_h rfl h1 h2 h3] at z
    exact z
  rw [e56]
  exact loop0 n 0 (by omega)
theorem c_codeOf {m : Nat} {h : ab_H} {A NN fo n : Nat} {g : Nat → Int32} (hA : h A = .inl (NN, g)) (hN : NN < 2 ^ 31) (hr : fo + n ≤ NN) {x : Nat → Nat} (hg : ∀ k, k < n → g (fo + k) = nI (x k)) : ab_D Y_M_codeOf [.ref A, .int (nI fo), .int (nI n)] m h (some (.int (nI (cd x n)))) m (h) := by
  refine ab_C.of (L := [some (.ref A), some (.int (nI fo)), some (.int (nI n)), none, none]) rfl rfl (Nat.le_of_ble_eq_true rfl) (fun l => ?_)
  have loop : ∀ kf j, j + kf = n → ab_W Y_M_codeOf none l (fun r m2 h2 => r = some (.int (nI (cd x n))) ∧ m2 = m ∧ h2 = h) 5 [some (.ref A), some (.int (nI fo)), some (.int (nI n)), some (.int (nI (cd x (j)))), some (.int (nI (j)))] [] m (h) (0, 0) := by
    intro kf
    induction kf with
    | zero =>
      intro j hj 
      have hjn : n = j := by omega
      subst hjn
      refine aw_iload d_M_codeOf_5 rfl ?_
      refine aw_iload_n d_M_codeOf_7 rfl ?_
      refine aw_icmp_ge (tgt := 29) d_M_codeOf_8 (by decide) (fun c8 => ?_) (fun c8 => ?_)
      · refine aw_iload_n d_M_codeOf_29 rfl ?_
        refine aw_ireturn d_M_codeOf_30 rfl rfl ?_
        exact ⟨rfl, rfl, rfl⟩
      · exact absurd (Int32.le_refl _) c8
    | succ kf ih =>
      intro j hj 
      refine aw_iload d_M_codeOf_5 rfl ?_
      refine aw_iload_n d_M_codeOf_7 rfl ?_
      refine aw_icmp_ge (tgt := 29) d_M_codeOf_8 (by decide) (fun c8 => ?_) (fun c8 => ?_)
      · exact absurd c8 (nI_ge (by omega) (by omega))
      · refine aw_bipush (v := nI 6) d_M_codeOf_11 (by decide) ?_
        refine aw_iload_n d_M_codeOf_13 rfl ?_
        refine aw_imul d_M_codeOf_14 ?_
        refine aw_aload_n d_M_codeOf_15 rfl ?_
        refine aw_iload_n d_M_codeOf_16 rfl ?_
        refine aw_iload d_M_codeOf_17 rfl ?_
        refine aw_iadd d_M_codeOf_19 ?_
        rw [nI_add]
        refine aw_ialoadN d_M_codeOf_20 hA (by omega) hN ?_
        rw [hg j (by omega), pk_mul]
        refine aw_iadd d_M_codeOf_21 ?_
        rw [nI_add]
        refine aw_istore_n (L' := [some (.ref A), some (.int (nI fo)), some (.int (nI n)), some (.int (nI (cd x (j + 1)))), some (.int (nI (j)))]) d_M_codeOf_22 ⟨by decide, rfl⟩ rfl ?_
        refine aw_iinc (v := nI ((j) + 1)) (L' := [some (.ref A), some (.int (nI fo)), some (.int (nI n)), some (.int (nI (cd x (j + 1)))), some (.int (nI ((j) + 1)))]) d_M_codeOf_23 rfl (nI_1 _) ⟨by decide, rfl⟩ rfl ?_
        refine aw_goto (tgt := 5) d_M_codeOf_26 (by decide) ?_
        exact ih (j + 1) (by omega)
  refine aw_iconst (v := nI 0) d_M_codeOf_0 (by decide) ?_
  refine aw_istore_n (L' := [some (.ref A), some (.int (nI fo)), some (.int (nI n)), some (.int (nI 0)), none]) d_M_codeOf_1 ⟨by decide, rfl⟩ rfl ?_
  refine aw_iconst (v := nI 0) d_M_codeOf_2 (by decide) ?_
  refine aw_istore (L' := [some (.ref A), some (.int (nI fo)), some (.int (nI n)), some (.int (nI 0)), some (.int (nI 0))]) d_M_codeOf_3 ⟨by decide, rfl⟩ rfl ?_
  exact loop n 0 (by omega)
