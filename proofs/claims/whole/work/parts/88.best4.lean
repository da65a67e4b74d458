theorem y_best {V : VV} {m c : Nat} {h : ab_H} {S : SS} (hM : PM V c h S) (ok : S_ok S) (hc : c < 900) (w : Int32) : CM V Y_M_best [.int w] m c h (fun r S2 => (r, S2) = sp_best S w) := by
  obtain ⟨⟨tab, la, at_, wr, ve, fs, ft, m0, m1, m2, m3, m4, m5, m6⟩, ⟨n0, n1, n2, n3, n4, n5, n6, n7, n8, n9⟩, q1, q2, q3, q4⟩ := id hM
  have hn6 : N_n (S_N S) ≤ 6 := ok.1.1
  have hnT := nI_toInt (show N_n (S_N S) < 2 ^ 31 by omega)
  obtain ⟨_, ⟨d1, h67⟩, ⟨d2, h68⟩, ⟨d3, h69⟩, _, _, ⟨d7, h72⟩, _⟩ := id q3
  have hfe := ok.1.fe6
  have hTT := (TT_le hn6).1
  refine ab_C.of (L := [some (.ref 56), some (.int w), none, none, none, none, none, none, none, none]) rfl rfl (Nat.le_of_ble_eq_true rfl) (fun l => ?_)
  refine aw_iload_n d_M_best_0 rfl ?_
  refine aw_i2l d_M_best_1 ?_
  refine aw_ldc2 (v := (-2)) d_M_best_2 k_M_318 ?_
  refine aw_aload_n d_M_best_5 rfl ?_
  refine aw_get (k := 0) d_M_best_6 cl_Model k_M_118 (by decide) m0 rfl ?_
  refine aw_if_le (tgt := 22) d_M_best_9 (by decide) (fun c9 => ?_) (fun c9 => ?_)
  · refine aw_ldc2 (v := (-1)) d_M_best_22 k_M_320 ?_
    refine aw_s0i d_M_best_25 k_M_121 ok_M_in rfl ⟨rfl, rfl⟩ (c_in w.toInt64 (-2) (-1)) rfl rfl (Nat.le_of_ble_eq_true rfl) ?_
    refine aw_if_ne (tgt := 33) d_M_best_28 (by decide) (fun c28 => ?_) (fun c28 => ?_)
    · have irw : ir w (-2) (N_n (S_N S) - 1 : Int) := by
        have z := of_decide_eq_true (ab_bl_1.mp c28)
        rw [i64_toInt, show ((-2 : Int64)).toInt = -2 from by decide] at z
        first
          | (rw [i64_toInt, n_1T hn6] at z
             exact z)
          | (rw [show ((-1 : Int64)).toInt = -1 from by decide] at z
             have c9 : N_n (S_N S) ≤ 0 := (nI_leI (b := 0) (by omega) (by decide)).mp c9
             exact ⟨z.1, by omega⟩)
      refine aw_aload_n d_M_best_33 rfl ?_
      refine aw_get (k := 0) d_M_best_34 cl_Model k_M_118 (by decide) m0 rfl ?_
      refine aw_if_eq (tgt := 47) d_M_best_37 (by decide) (fun c37 => ?_) (fun c37 => ?_)
      · refine aw_bipush (v := (-2)) d_M_best_47 (by decide) ?_
        refine aw_ireturn d_M_best_49 rfl rfl ?_
        refine ⟨_, S, rfl, ?_, ⟨⟨tab, la, at_, wr, ve, fs, ft, m0, by omega, by omega, m3, m4, m5, m6⟩, ⟨n0, n1, n2, n3, n4, n5, n6, n7, n8, n9⟩, q1, q2, q3, q4⟩, rfl, fun k _ => rfl⟩
        unfold sp_best
        rw [if_pos irw, if_pos]
        first
          | exact Or.inl ((nI_eq (b := 0) (by omega) (by decide)).mp c37)
          | exact Or.inr ((nI_eq (b := 0) (by omega) (by decide)).mp c44)
      · refine aw_aload_n d_M_best_40 rfl ?_
        refine aw_get (k := 34) d_M_best_41 cl_Model k_M_187 (by decide) m0 rfl ?_
        refine aw_if_ne (tgt := 50) d_M_best_44 (by decide) (fun c44 => ?_) (fun c44 => ?_)
        · have ne0 : ¬ (N_n (S_N S) = 0 ∨ N_fe (S_N S) = 0) := fun z => z.elim (fun z => c37 (by rw [z]; rfl)) (fun z => c44 (by rw [z]; rfl))
          refine aw_aload_n d_M_best_50 rfl ?_
          refine aw_aload_n d_M_best_51 rfl ?_
          refine aw_get (k := 0) d_M_best_52 cl_Model k_M_118 (by decide) m0 rfl ?_
          refine aw_v0 (a := 56) d_M_best_55 k_M_226 ok_M_lays rfl ⟨rfl, rfl⟩ cl_Model m0 (c_lays m0 hn6 h67 h68 h69) rfl rfl (Nat.le_of_ble_eq_true rfl) (fun r m2 h2 q => ?_)
          obtain ⟨rfl, em, g1, g2, g3, rfl, hly⟩ := q
          rw [em]
          show ab_W _ _ _ _ 58 _ [] _ _ _
          refine aw_bipush (v := (-4)) d_M_best_58 (by decide) ?_
          refine aw_istore_n (L' := [some (.ref 56), some (.int w), some (.int (-4)), none, none, none, none, none, none, none]) d_M_best_60 ⟨by decide, rfl⟩ rfl ?_
          refine aw_ldc (v := nI 1000000000) d_M_best_61 k_M_242 ?_
          refine aw_istore_n (L' := [some (.ref 56), some (.int w), some (.int (-4)), some (.int (nI 1000000000)), none, none, none, none, none, none]) d_M_best_63 ⟨by decide, rfl⟩ rfl ?_
          refine aw_ldc (v := nI 1000000000) d_M_best_64 k_M_242 ?_
          refine aw_istore (L' := [some (.ref 56), some (.int w), some (.int (-4)), some (.int (nI 1000000000)), some (.int (nI 1000000000)), none, none, none, none, none]) d_M_best_66 ⟨by decide, rfl⟩ rfl ?_
          refine aw_iconst (v := nI 0) d_M_best_68 (by decide) ?_
          refine aw_istore (L' := [some (.ref 56), some (.int w), some (.int (-4)), some (.int (nI 1000000000)), some (.int (nI 1000000000)), some (.int (nI 0)), none, none, none, none]) d_M_best_69 ⟨by decide, rfl⟩ rfl ?_
          have loopt : ∀ kf t (g7 : Nat → Int32) (bs : Int32) (ls lm : Nat), t + kf = TT (N_n (S_N S)) → ls ≤ 1000000000 → lm ≤ 1000000000 → ((t = 0 ∧ bs = -4 ∧ ls = 1000000000 ∧ lm = 1000000000) ∨ (0 < t ∧ bs = nI (bst (S_N S) t).1 ∧ ls = (bst (S_N S) t).2.1 ∧ lm = (bst (S_N S) t).2.2)) → ab_W Y_M_best none l (fun r m2 h2 => ∃ (v : Int32) (S2 : SS), r = some (.int v) ∧ (v, S2) = sp_best S w ∧ PM V (c + 1) h2 S2 ∧ m2 = m ∧ ∀ k, (k < 56 ∨ 88 < k) → h2 k = h k) 71 [some (.ref 56), some (.int w), some (.int bs), some (.int (nI ls)), some (.int (nI lm)), some (.int (nI (t))), none, none, none, none] [] m (ab_set (HL h (oM (N_n (S_N S)) (N_ns (S_N S)) (N_ra (S_N S)) (N_se (S_N S)) (N_me (S_N S)) (N_mi (S_N S)) (nI (TT (N_n (S_N S)))) (nI ve) la (S_tl S) at_ wr (N_fe (S_N S)) (S_K S).isSome) g1 g2 g3) 72 (.inl (6, g7))) (0, 0) := by
            intro kf
            induction kf with
            | zero =>
              intro t g7 bs ls lm ht hls hlm es
              have htn : TT (N_n (S_N S)) = t := by omega
              subst htn
              refine aw_iload d_M_best_71 rfl ?_
              refine aw_aload_n d_M_best_73 rfl ?_
              refine aw_get (k := 17) d_M_best_74 cl_Model k_M_220 (by decide) rfl rfl ?_
              refine aw_icmp_ge (tgt := 214) d_M_best_77 (by decide) (fun c77 => ?_) (fun c77 => ?_)
              · refine aw_iload_n d_M_best_214 rfl ?_
                refine aw_iconst (v := (-1)) d_M_best_215 (by decide) ?_
                refine aw_icmp_ne (tgt := 223) d_M_best_216 (by decide) (fun c216 => ?_) (fun c216 => ?_)
                · refine aw_iload_n d_M_best_223 rfl ?_
                  refine aw_bipush (v := (-2)) d_M_best_224 (by decide) ?_
                  refine aw_icmp_ne (tgt := 234) d_M_best_226 (by decide) (fun c226 => ?_) (fun c226 => ?_)
                  · obtain ⟨j, hj, rfl⟩ : ∃ j, j < N_n (S_N S) ∧ w = nI j := by
                      refine irN ⟨?_, irw.2⟩
                      have i1 := irw.1
                      rw [fa_eq] at c216 c226
                      rw [show ((-1 : Int32)).toInt = -1 from by decide] at c216
                      rw [show ((-2 : Int32)).toInt = -2 from by decide] at c226
                      omega
                    have bt := bst_t ok.1 (TT (N_n (S_N S))) (Nat.le_refl _)
                    rcases es with ⟨e1, e2, e3, e4⟩ | ⟨e1, e2, e3, e4⟩
                    · exact absurd e1 (by have := (TT_le hn6).2; omega)
                    subst e2
                    refine aw_aload_n d_M_best_234 rfl ?_
                    refine aw_get (k := 18) d_M_best_235 cl_Model k_M_50 (by decide) rfl rfl ?_
                    refine aw_bipush (v := nI 6) d_M_best_238 (by decide) ?_
                    refine aw_iload_n d_M_best_240 rfl ?_
                    refine aw_imul d_M_best_241 ?_
                    refine aw_iload_n d_M_best_242 rfl ?_
                    refine aw_iadd d_M_best_243 ?_
                    rw [pk_mul, nI_add]
                    refine aw_ialoadN d_M_best_244 rfl (by omega) (by decide) ?_
                    refine aw_ireturn d_M_best_245 rfl rfl ?_
                    refine ⟨_, S, rfl, ?_, PM.mk2 hc (tab2 := nI (TT (N_n (S_N S)))) (la := la) (at_ := at_) (wr := wr) (ve := ve) (fs := fs) (ft := ft) rfl m1 m3 m4 m5 m6 ⟨n0, n1, n2, n3, n4, n5, n6, n7, n8, n9⟩ q1 q2 q4 (fun k h1 h2 h3 h4 => ?_) ⟨q3.1, ⟨g1, rfl⟩, ⟨g2, rfl⟩, ⟨g3, rfl⟩, q3.2.2.2.2.1, q3.2.2.2.2.2.1, ⟨g7, rfl⟩, q3.2.2.2.2.2.2.2⟩, rfl, fun k hk => ?_⟩
                    rotate_left
                    · unfold scr at h3
                      rw [ab_set_ne (by omega), HL_ne (by omega) (by omega)]
                    · rw [ab_set_ne (by omega), HL_ne (by omega) (by omega)]
                    first
                      | (unfold sp_best
                         rw [if_pos irw, if_neg ne0, if_neg c216, if_neg c226, hly.row bt.1 hj, cl_nI (by omega)]; done)
                      | (rcases es with ⟨e1, e2, e3, e4⟩ | ⟨e1, e2, e3, e4⟩
                         · exact absurd e1 (by have := (TT_le hn6).2; omega)
                         unfold sp_best
                         rw [if_pos irw, if_neg ne0, if_pos c216, e3]; done)
                      | (rcases es with ⟨e1, e2, e3, e4⟩ | ⟨e1, e2, e3, e4⟩
                         · exact absurd e1 (by have := (TT_le hn6).2; omega)
                         unfold sp_best
                         rw [if_pos irw, if_neg ne0, if_neg c216, if_pos c226, e4]; done)
                  · refine aw_iload d_M_best_229 rfl ?_
                    refine aw_goto (tgt := 245) d_M_best_231 (by decide) ?_
                    refine aw_ireturn d_M_best_245 rfl rfl ?_
                    refine ⟨_, S, rfl, ?_, PM.mk2 hc (tab2 := nI (TT (N_n (S_N S)))) (la := la) (at_ := at_) (wr := wr) (ve := ve) (fs := fs) (ft := ft) rfl m1 m3 m4 m5 m6 ⟨n0, n1, n2, n3, n4, n5, n6, n7, n8, n9⟩ q1 q2 q4 (fun k h1 h2 h3 h4 => ?_) ⟨q3.1, ⟨g1, rfl⟩, ⟨g2, rfl⟩, ⟨g3, rfl⟩, q3.2.2.2.2.1, q3.2.2.2.2.2.1, ⟨g7, rfl⟩, q3.2.2.2.2.2.2.2⟩, rfl, fun k hk => ?_⟩
                    rotate_left
                    · unfold scr at h3
                      rw [ab_set_ne (by omega), HL_ne (by omega) (by omega)]
                    · rw [ab_set_ne (by omega), HL_ne (by omega) (by omega)]
                    first
                      | (unfold sp_best
                         rw [if_pos irw, if_neg ne0, if_neg c216, if_neg c226, hly.row bt.1 hj, cl_nI (by omega)]; done)
                      | (rcases es with ⟨e1, e2, e3, e4⟩ | ⟨e1, e2, e3, e4⟩
                         · exact absurd e1 (by have := (TT_le hn6).2; omega)
                         unfold sp_best
                         rw [if_pos irw, if_neg ne0, if_pos c216, e3]; done)
                      | (rcases es with ⟨e1, e2, e3, e4⟩ | ⟨e1, e2, e3, e4⟩
                         · exact absurd e1 (by have := (TT_le hn6).2; omega)
                         unfold sp_best
                         rw [if_pos irw, if_neg ne0, if_neg c216, if_pos c226, e4]; done)
                · refine aw_iload_n d_M_best_219 rfl ?_
                  refine aw_goto (tgt := 245) d_M_best_220 (by decide) ?_
                  refine aw_ireturn d_M_best_245 rfl rfl ?_
                  refine ⟨_, S, rfl, ?_, PM.mk2 hc (tab2 := nI (TT (N_n (S_N S)))) (la := la) (at_ := at_) (wr := wr) (ve := ve) (fs := fs) (ft := ft) rfl m1 m3 m4 m5 m6 ⟨n0, n1, n2, n3, n4, n5, n6, n7, n8, n9⟩ q1 q2 q4 (fun k h1 h2 h3 h4 => ?_) ⟨q3.1, ⟨g1, rfl⟩, ⟨g2, rfl⟩, ⟨g3, rfl⟩, q3.2.2.2.2.1, q3.2.2.2.2.2.1, ⟨g7, rfl⟩, q3.2.2.2.2.2.2.2⟩, rfl, fun k hk => ?_⟩
                  rotate_left
                  · unfold scr at h3
                    rw [ab_set_ne (by omega), HL_ne (by omega) (by omega)]
                  · rw [ab_set_ne (by omega), HL_ne (by omega) (by omega)]
                  first
                    | (unfold sp_best
                       rw [if_pos irw, if_neg ne0, if_neg c216, if_neg c226, hly.row bt.1 hj, cl_nI (by omega)]; done)
                    | (rcases es with ⟨e1, e2, e3, e4⟩ | ⟨e1, e2, e3, e4⟩
                       · exact absurd e1 (by have := (TT_le hn6).2; omega)
                       unfold sp_best
                       rw [if_pos irw, if_neg ne0, if_pos c216, e3]; done)
                    | (rcases es with ⟨e1, e2, e3, e4⟩ | ⟨e1, e2, e3, e4⟩
                       · exact absurd e1 (by have := (TT_le hn6).2; omega)
                       unfold sp_best
                       rw [if_pos irw, if_neg ne0, if_neg c216, if_pos c226, e4]; done)
              · exact absurd (Int32.le_refl _) c77
            | succ kf iht =>
              intro t g7 bs ls lm ht hls hlm es
              refine aw_iload d_M_best_71 rfl ?_
              refine aw_aload_n d_M_best_73 rfl ?_
              refine aw_get (k := 17) d_M_best_74 cl_Model k_M_220 (by decide) rfl rfl ?_
              refine aw_icmp_ge (tgt := 214) d_M_best_77 (by decide) (fun c77 => ?_) (fun c77 => ?_)
              · exact absurd c77 (nI_ge (by omega) (by omega))
              · refine aw_iconst (v := nI 0) d_M_best_80 (by decide) ?_
                refine aw_istore (L' := [some (.ref 56), some (.int w), some (.int bs), some (.int (nI ls)), some (.int (nI lm)), some (.int (nI (t))), some (.int (nI 0)), none, none, none]) d_M_best_81 ⟨by decide, rfl⟩ rfl ?_
                refine aw_iconst (v := nI 0) d_M_best_83 (by decide) ?_
                refine aw_istore (L' := [some (.ref 56), some (.int w), some (.int bs), some (.int (nI ls)), some (.int (nI lm)), some (.int (nI (t))), some (.int (nI 0)), some (.int (nI 0)), none, none]) d_M_best_84 ⟨by decide, rfl⟩ rfl ?_
                refine aw_iconst (v := nI 0) d_M_best_86 (by decide) ?_
                refine aw_istore (L' := [some (.ref 56), some (.int w), some (.int bs), some (.int (nI ls)), some (.int (nI lm)), some (.int (nI (t))), some (.int (nI 0)), some (.int (nI 0)), some (.int (nI 0)), none]) d_M_best_87 ⟨by decide, rfl⟩ rfl ?_
                have px := prm_t hn6 (show t < TT (N_n (S_N S)) by omega)
                have loopf : ∀ ke f (g7 : Nat → Int32), f + ke = N_fe (S_N S) → ab_W Y_M_best none l (fun r m2 h2 => ∃ (v : Int32) (S2 : SS), r = some (.int v) ∧ (v, S2) = sp_best S w ∧ PM V (c + 1) h2 S2 ∧ m2 = m ∧ ∀ k, (k < 56 ∨ 88 < k) → h2 k = h k) 89 [some (.ref 56), some (.int w), some (.int bs), some (.int (nI ls)), some (.int (nI lm)), some (.int (nI t)), some (.int (nI (mxh (S_N S) (prm (N_n (S_N S)) t) (f)))), some (.int (nI (smh (S_N S) (prm (N_n (S_N S)) t) (f)))), some (.int (nI (f))), none] [] m (ab_set (HL h (oM (N_n (S_N S)) (N_ns (S_N S)) (N_ra (S_N S)) (N_se (S_N S)) (N_me (S_N S)) (N_mi (S_N S)) (nI (TT (N_n (S_N S)))) (nI ve) la (S_tl S) at_ wr (N_fe (S_N S)) (S_K S).isSome) g1 g2 g3) 72 (.inl (6, g7))) (0, 0) := by
                  intro ke
                  induction ke with
                  | zero =>
                    intro f g7 hf 
                    have hfn : N_fe (S_N S) = f := by omega
                    subst hfn
                    refine aw_iload d_M_best_89 rfl ?_
                    refine aw_aload_n d_M_best_91 rfl ?_
                    refine aw_get (k := 34) d_M_best_92 cl_Model k_M_187 (by decide) rfl rfl ?_
                    refine aw_icmp_ge (tgt := 144) d_M_best_95 (by decide) (fun c95 => ?_) (fun c95 => ?_)
                    · refine aw_iload d_M_best_144 rfl ?_
                      refine aw_iload_n d_M_best_146 rfl ?_
                      refine aw_icmp_lt (tgt := 163) d_M_best_147 (by decide) (fun c147 => ?_) (fun c147 => ?_)
                      · refine aw_iconst (v := nI 1) d_M_best_163 (by decide) ?_
                        refine aw_goto (tgt := 168) d_M_best_164 (by decide) ?_
                        refine aw_istore (L' := [some (.ref 56), some (.int w), some (.int bs), some (.int (nI ls)), some (.int (nI lm)), some (.int (nI t)), some (.int (nI (mxh (S_N S) (prm (N_n (S_N S)) t) (N_fe (S_N S))))), some (.int (nI (smh (S_N S) (prm (N_n (S_N S)) t) (N_fe (S_N S))))), some (.int (nI 1)), none]) d_M_best_168 ⟨by decide, rfl⟩ rfl ?_
                        refine aw_iload d_M_best_170 rfl ?_
                        refine aw_if_eq (tgt := 180) d_M_best_172 (by decide) (fun c172 => ?_) (fun c172 => ?_)
                        · first | exact absurd c172 (by decide) | exact absurd (by decide) c172
                        · refine aw_iload d_M_best_175 rfl ?_
                          refine aw_goto (tgt := 181) d_M_best_177 (by decide) ?_
                          refine aw_istore_n (L' := [some (.ref 56), some (.int w), some (.int (nI t)), some (.int (nI ls)), some (.int (nI lm)), some (.int (nI t)), some (.int (nI (mxh (S_N S) (prm (N_n (S_N S)) t) (N_fe (S_N S))))), some (.int (nI (smh (S_N S) (prm (N_n (S_N S)) t) (N_fe (S_N S))))), some (.int (nI 1)), none]) d_M_best_181 ⟨by decide, rfl⟩ rfl ?_
                          refine aw_iload d_M_best_182 rfl ?_
                          refine aw_if_eq (tgt := 192) d_M_best_184 (by decide) (fun c184 => ?_) (fun c184 => ?_)
                          · first | exact absurd c184 (by decide) | exact absurd (by decide) c184
                          · refine aw_iload d_M_best_187 rfl ?_
                            refine aw_goto (tgt := 193) d_M_best_189 (by decide) ?_
                            refine aw_istore_n (L' := [some (.ref 56), some (.int w), some (.int (nI t)), some (.int (nI (mxh (S_N S) (prm (N_n (S_N S)) t) (N_fe (S_N S))))), some (.int (nI lm)), some (.int (nI t)), some (.int (nI (mxh (S_N S) (prm (N_n (S_N S)) t) (N_fe (S_N S))))), some (.int (nI (smh (S_N S) (prm (N_n (S_N S)) t) (N_fe (S_N S))))), some (.int (nI 1)), none]) d_M_best_193 ⟨by decide, rfl⟩ rfl ?_
                            refine aw_iload d_M_best_194 rfl ?_
                            refine aw_if_eq (tgt := 204) d_M_best_196 (by decide) (fun c196 => ?_) (fun c196 => ?_)
                            · first | exact absurd c196 (by decide) | exact absurd (by decide) c196
                            · refine aw_iload d_M_best_199 rfl ?_
                              refine aw_goto (tgt := 206) d_M_best_201 (by decide) ?_
                              refine aw_istore (L' := [some (.ref 56), some (.int w), some (.int (nI t)), some (.int (nI (mxh (S_N S) (prm (N_n (S_N S)) t) (N_fe (S_N S))))), some (.int (nI (smh (S_N S) (prm (N_n (S_N S)) t) (N_fe (S_N S))))), some (.int (nI t)), some (.int (nI (mxh (S_N S) (prm (N_n (S_N S)) t) (N_fe (S_N S))))), some (.int (nI (smh (S_N S) (prm (N_n (S_N S)) t) (N_fe (S_N S))))), some (.int (nI 1)), none]) d_M_best_206 ⟨by decide, rfl⟩ rfl ?_
                              refine aw_iinc (v := nI (t + 1)) (L' := [some (.ref 56), some (.int w), some (.int (nI t)), some (.int (nI (mxh (S_N S) (prm (N_n (S_N S)) t) (N_fe (S_N S))))), some (.int (nI (smh (S_N S) (prm (N_n (S_N S)) t) (N_fe (S_N S))))), some (.int (nI (t + 1))), some (.int (nI (mxh (S_N S) (prm (N_n (S_N S)) t) (N_fe (S_N S))))), some (.int (nI (smh (S_N S) (prm (N_n (S_N S)) t) (N_fe (S_N S))))), some (.int (nI 1)), none]) d_M_best_208 rfl (nI_1 _) ⟨by decide, rfl⟩ rfl ?_
                              refine aw_goto (tgt := 71) d_M_best_211 (by decide) ?_
                              have mx := mxh_le ok.1 px.1 _ (Nat.le_refl (N_fe (S_N S)))
                              have sm := smh_le ok.1 px.1 (Nat.le_refl (N_fe (S_N S)))
                              have bt := bst_t ok.1 t (by omega)
                              first
                                | (refine aw_drop 6 (aw_drop 7 (aw_drop 8 (aw_drop 9 (iht (t + 1) g7 bs ls lm (by omega) hls hlm (Or.inr ?_)))))
                                   rcases es with ⟨e1, e2, e3, e4⟩ | ⟨e1, e2, e3, e4⟩
                                   · subst e3
                                     subst e4
                                     first
                                       | exact absurd (nI_lt (show mxh (S_N S) (prm (N_n (S_N S)) t) (N_fe (S_N S)) < 1000000000 by omega) (by decide)) c147
                                   · have e : bst (S_N S) (t + 1) = bst (S_N S) t := if_neg (fun z => by
                                       rw [← e3, ← e4] at z
                                       have z := (btr_i (by omega) (by omega) (by omega) (by omega)).mpr z
                                       exact z.elim c147 (fun z => c153 z.1))
                                     rw [e]; exact ⟨by omega, e2, e3, e4⟩)
                                | (refine aw_drop 6 (aw_drop 7 (aw_drop 8 (aw_drop 9 (iht (t + 1) g7 bs ls lm (by omega) hls hlm (Or.inr ?_)))))
                                   rcases es with ⟨e1, e2, e3, e4⟩ | ⟨e1, e2, e3, e4⟩
                                   · subst e3
                                     subst e4
                                     first
                                       | exact absurd (nI_lt (show mxh (S_N S) (prm (N_n (S_N S)) t) (N_fe (S_N S)) < 1000000000 by omega) (by decide)) c147
                                   · have e : bst (S_N S) (t + 1) = bst (S_N S) t := if_neg (fun z => by
                                       rw [← e3, ← e4] at z
                                       have z := (btr_i (by omega) (by omega) (by omega) (by omega)).mpr z
                                       exact z.elim c147 (fun z => absurd z.2 (Int32.not_lt.mpr c160)))
                                     rw [e]; exact ⟨by omega, e2, e3, e4⟩)
                                | (refine aw_drop 6 (aw_drop 7 (aw_drop 8 (aw_drop 9 (iht (t + 1) g7 _ (mxh (S_N S) (prm (N_n (S_N S)) t) (N_fe (S_N S))) (smh (S_N S) (prm (N_n (S_N S)) t) (N_fe (S_N S))) (by omega) (by omega) (by omega) (Or.inr ?_)))))
                                   rcases es with ⟨e1, e2, e3, e4⟩ | ⟨e1, e2, e3, e4⟩
                                   · subst e1
                                     rw [bst_1]; exact ⟨by omega, rfl, rfl, rfl⟩
                                   · have e : bst (S_N S) (t + 1) = (t, mxh (S_N S) (prm (N_n (S_N S)) t) (N_fe (S_N S)), smh (S_N S) (prm (N_n (S_N S)) t) (N_fe (S_N S))) := if_pos (by
                                       rw [← e3, ← e4]
                                       exact (btr_i (by omega) (by omega) (by omega) (by omega)).mp (Or.inl c147))
                                     rw [e]; exact ⟨by omega, rfl, rfl, rfl⟩)
                                | (refine aw_drop 6 (aw_drop 7 (aw_drop 8 (aw_drop 9 (iht (t + 1) g7 _ (mxh (S_N S) (prm (N_n (S_N S)) t) (N_fe (S_N S))) (smh (S_N S) (prm (N_n (S_N S)) t) (N_fe (S_N S))) (by omega) (by omega) (by omega) (Or.inr ?_)))))
                                   rcases es with ⟨e1, e2, e3, e4⟩ | ⟨e1, e2, e3, e4⟩
                                   · subst e1
                                     rw [bst_1]; exact ⟨by omega, rfl, rfl, rfl⟩
                                   · have e : bst (S_N S) (t + 1) = (t, mxh (S_N S) (prm (N_n (S_N S)) t) (N_fe (S_N S)), smh (S_N S) (prm (N_n (S_N S)) t) (N_fe (S_N S))) := if_pos (by
                                       rw [← e3, ← e4]
                                       exact (btr_i (by omega) (by omega) (by omega) (by omega)).mp (Or.inr ⟨c153, Int32.not_le.mp c160⟩))
                                     rw [e]; exact ⟨by omega, rfl, rfl, rfl⟩)
                      · refine aw_iload d_M_best_150 rfl ?_
                        refine aw_iload_n d_M_best_152 rfl ?_
                        refine aw_icmp_ne (tgt := 167) d_M_best_153 (by decide) (fun c153 => ?_) (fun c153 => ?_)
                        · refine aw_iconst (v := nI 0) d_M_best_167 (by decide) ?_
                          refine aw_istore (L' := [some (.ref 56), some (.int w), some (.int bs), some (.int (nI ls)), some (.int (nI lm)), some (.int (nI t)), some (.int (nI (mxh (S_N S) (prm (N_n (S_N S)) t) (N_fe (S_N S))))), some (.int (nI (smh (S_N S) (prm (N_n (S_N S)) t) (N_fe (S_N S))))), some (.int (nI 0)), none]) d_M_best_168 ⟨by decide, rfl⟩ rfl ?_
                          refine aw_iload d_M_best_170 rfl ?_
                          refine aw_if_eq (tgt := 180) d_M_best_172 (by decide) (fun c172 => ?_) (fun c172 => ?_)
                          · refine aw_iload_n d_M_best_180 rfl ?_
                            refine aw_istore_n (L' := [some (.ref 56), some (.int w), some (.int bs), some (.int (nI ls)), some (.int (nI lm)), some (.int (nI t)), some (.int (nI (mxh (S_N S) (prm (N_n (S_N S)) t) (N_fe (S_N S))))), some (.int (nI (smh (S_N S) (prm (N_n (S_N S)) t) (N_fe (S_N S))))), some (.int (nI 0)), none]) d_M_best_181 ⟨by decide, rfl⟩ rfl ?_
                            refine aw_iload d_M_best_182 rfl ?_
                            refine aw_if_eq (tgt := 192) d_M_best_184 (by decide) (fun c184 => ?_) (fun c184 => ?_)
                            · refine aw_iload_n d_M_best_192 rfl ?_
                              refine aw_istore_n (L' := [some (.ref 56), some (.int w), some (.int bs), some (.int (nI ls)), some (.int (nI lm)), some (.int (nI t)), some (.int (nI (mxh (S_N S) (prm (N_n (S_N S)) t) (N_fe (S_N S))))), some (.int (nI (smh (S_N S) (prm (N_n (S_N S)) t) (N_fe (S_N S))))), some (.int (nI 0)), none]) d_M_best_193 ⟨by decide, rfl⟩ rfl ?_
                              refine aw_iload d_M_best_194 rfl ?_
                              refine aw_if_eq (tgt := 204) d_M_best_196 (by decide) (fun c196 => ?_) (fun c196 => ?_)
                              · refine aw_iload d_M_best_204 rfl ?_
                                refine aw_istore (L' := [some (.ref 56), some (.int w), some (.int bs), some (.int (nI ls)), some (.int (nI lm)), some (.int (nI t)), some (.int (nI (mxh (S_N S) (prm (N_n (S_N S)) t) (N_fe (S_N S))))), some (.int (nI (smh (S_N S) (prm (N_n (S_N S)) t) (N_fe (S_N S))))), some (.int (nI 0)), none]) d_M_best_206 ⟨by decide, rfl⟩ rfl ?_
                                refine aw_iinc (v := nI (t + 1)) (L' := [some (.ref 56), some (.int w), some (.int bs), some (.int (nI ls)), some (.int (nI lm)), some (.int (nI (t + 1))), some (.int (nI (mxh (S_N S) (prm (N_n (S_N S)) t) (N_fe (S_N S))))), some (.int (nI (smh (S_N S) (prm (N_n (S_N S)) t) (N_fe (S_N S))))), some (.int (nI 0)), none]) d_M_best_208 rfl (nI_1 _) ⟨by decide, rfl⟩ rfl ?_
                                refine aw_goto (tgt := 71) d_M_best_211 (by decide) ?_
                                have mx := mxh_le ok.1 px.1 _ (Nat.le_refl (N_fe (S_N S)))
                                have sm := smh_le ok.1 px.1 (Nat.le_refl (N_fe (S_N S)))
                                have bt := bst_t ok.1 t (by omega)
                                first
                                  | (refine aw_drop 6 (aw_drop 7 (aw_drop 8 (aw_drop 9 (iht (t + 1) g7 bs ls lm (by omega) hls hlm (Or.inr ?_)))))
                                     rcases es with ⟨e1, e2, e3, e4⟩ | ⟨e1, e2, e3, e4⟩
                                     · subst e3
                                       subst e4
                                       first
                                         | exact absurd (nI_lt (show mxh (S_N S) (prm (N_n (S_N S)) t) (N_fe (S_N S)) < 1000000000 by omega) (by decide)) c147
                                     · have e : bst (S_N S) (t + 1) = bst (S_N S) t := if_neg (fun z => by
                                         rw [← e3, ← e4] at z
                                         have z := (btr_i (by omega) (by omega) (by omega) (by omega)).mpr z
                                         exact z.elim c147 (fun z => c153 z.1))
                                       rw [e]; exact ⟨by omega, e2, e3, e4⟩)
                                  | (refine aw_drop 6 (aw_drop 7 (aw_drop 8 (aw_drop 9 (iht (t + 1) g7 bs ls lm (by omega) hls hlm (Or.inr ?_)))))
                                     rcases es with ⟨e1, e2, e3, e4⟩ | ⟨e1, e2, e3, e4⟩
                                     · subst e3
                                       subst e4
                                       first
                                         | exact absurd (nI_lt (show mxh (S_N S) (prm (N_n (S_N S)) t) (N_fe (S_N S)) < 1000000000 by omega) (by decide)) c147
                                     · have e : bst (S_N S) (t + 1) = bst (S_N S) t := if_neg (fun z => by
                                         rw [← e3, ← e4] at z
                                         have z := (btr_i (by omega) (by omega) (by omega) (by omega)).mpr z
                                         exact z.elim c147 (fun z => absurd z.2 (Int32.not_lt.mpr c160)))
                                       rw [e]; exact ⟨by omega, e2, e3, e4⟩)
                                  | (refine aw_drop 6 (aw_drop 7 (aw_drop 8 (aw_drop 9 (iht (t + 1) g7 _ (mxh (S_N S) (prm (N_n (S_N S)) t) (N_fe (S_N S))) (smh (S_N S) (prm (N_n (S_N S)) t) (N_fe (S_N S))) (by omega) (by omega) (by omega) (Or.inr ?_)))))
                                     rcases es with ⟨e1, e2, e3, e4⟩ | ⟨e1, e2, e3, e4⟩
                                     · subst e1
                                       rw [bst_1]; exact ⟨by omega, rfl, rfl, rfl⟩
                                     · have e : bst (S_N S) (t + 1) = (t, mxh (S_N S) (prm (N_n (S_N S)) t) (N_fe (S_N S)), smh (S_N S) (prm (N_n (S_N S)) t) (N_fe (S_N S))) := if_pos (by
                                         rw [← e3, ← e4]
                                         exact (btr_i (by omega) (by omega) (by omega) (by omega)).mp (Or.inl c147))
                                       rw [e]; exact ⟨by omega, rfl, rfl, rfl⟩)
                                  | (refine aw_drop 6 (aw_drop 7 (aw_drop 8 (aw_drop 9 (iht (t + 1) g7 _ (mxh (S_N S) (prm (N_n (S_N S)) t) (N_fe (S_N S))) (smh (S_N S) (prm (N_n (S_N S)) t) (N_fe (S_N S))) (by omega) (by omega) (by omega) (Or.inr ?_)))))
                                     rcases es with ⟨e1, e2, e3, e4⟩ | ⟨e1, e2, e3, e4⟩
                                     · subst e1
                                       rw [bst_1]; exact ⟨by omega, rfl, rfl, rfl⟩
                                     · have e : bst (S_N S) (t + 1) = (t, mxh (S_N S) (prm (N_n (S_N S)) t) (N_fe (S_N S)), smh (S_N S) (prm (N_n (S_N S)) t) (N_fe (S_N S))) := if_pos (by
                                         rw [← e3, ← e4]
                                         exact (btr_i (by omega) (by omega) (by omega) (by omega)).mp (Or.inr ⟨c153, Int32.not_le.mp c160⟩))
                                       rw [e]; exact ⟨by omega, rfl, rfl, rfl⟩)
                              · first | exact absurd c196 (by decide) | exact absurd (by decide) c196
                            · first | exact absurd c184 (by decide) | exact absurd (by decide) c184
                          · first | exact absurd c172 (by decide) | exact absurd (by decide) c172
                        · refine aw_iload d_M_best_156 rfl ?_
                          refine aw_iload d_M_best_158 rfl ?_
                          refine aw_icmp_ge (tgt := 167) d_M_best_160 (by decide) (fun c160 => ?_) (fun c160 => ?_)
                          · refine aw_iconst (v := nI 0) d_M_best_167 (by decide) ?_
                            refine aw_istore (L' := [some (.ref 56), some (.int w), some (.int bs), some (.int (nI ls)), some (.int (nI lm)), some (.int (nI t)), some (.int (nI (mxh (S_N S) (prm (N_n (S_N S)) t) (N_fe (S_N S))))), some (.int (nI (smh (S_N S) (prm (N_n (S_N S)) t) (N_fe (S_N S))))), some (.int (nI 0)), none]) d_M_best_168 ⟨by decide, rfl⟩ rfl ?_
                            refine aw_iload d_M_best_170 rfl ?_
                            refine aw_if_eq (tgt := 180) d_M_best_172 (by decide) (fun c172 => ?_) (fun c172 => ?_)
                            · refine aw_iload_n d_M_best_180 rfl ?_
                              refine aw_istore_n (L' := [some (.ref 56), some (.int w), some (.int bs), some (.int (nI ls)), some (.int (nI lm)), some (.int (nI t)), some (.int (nI (mxh (S_N S) (prm (N_n (S_N S)) t) (N_fe (S_N S))))), some (.int (nI (smh (S_N S) (prm (N_n (S_N S)) t) (N_fe (S_N S))))), some (.int (nI 0)), none]) d_M_best_181 ⟨by decide, rfl⟩ rfl ?_
                              refine aw_iload d_M_best_182 rfl ?_
                              refine aw_if_eq (tgt := 192) d_M_best_184 (by decide) (fun c184 => ?_) (fun c184 => ?_)
                              · refine aw_iload_n d_M_best_192 rfl ?_
                                refine aw_istore_n (L' := [some (.ref 56), some (.int w), some (.int bs), some (.int (nI ls)), some (.int (nI lm)), some (.int (nI t)), some (.int (nI (mxh (S_N S) (prm (N_n (S_N S)) t) (N_fe (S_N S))))), some (.int (nI (smh (S_N S) (prm (N_n (S_N S)) t) (N_fe (S_N S))))), some (.int (nI 0)), none]) d_M_best_193 ⟨by decide, rfl⟩ rfl ?_
                                refine aw_iload d_M_best_194 rfl ?_
                                refine aw_if_eq (tgt := 204) d_M_best_196 (by decide) (fun c196 => ?_) (fun c196 => ?_)
                                · refine aw_iload d_M_best_204 rfl ?_
                                  refine aw_istore (L' := [some (.ref 56), some (.int w), some (.int bs), some (.int (nI ls)), some (.int (nI lm)), some (.int (nI t)), some (.int (nI (mxh (S_N S) (prm (N_n (S_N S)) t) (N_fe (S_N S))))), some (.int (nI (smh (S_N S) (prm (N_n (S_N S)) t) (N_fe (S_N S))))), some (.int (nI 0)), none]) d_M_best_206 ⟨by decide, rfl⟩ rfl ?_
                                  refine aw_iinc (v := nI (t + 1)) (L' := [some (.ref 56), some (.int w), some (.int bs), some (.int (nI ls)), some (.int (nI lm)), some (.int (nI (t + 1))), some (.int (nI (mxh (S_N S) (prm (N_n (S_N S)) t) (N_fe (S_N S))))), some (.int (nI (smh (S_N S) (prm (N_n (S_N S)) t) (N_fe (S_N S))))), some (.int (nI 0)), none]) d_M_best_208 rfl (nI_1 _) ⟨by decide, rfl⟩ rfl ?_
                                  refine aw_goto (tgt := 71) d_M_best_211 (by decide) ?_
                                  have mx := mxh_le ok.1 px.1 _ (Nat.le_refl (N_fe (S_N S)))
                                  have sm := smh_le ok.1 px.1 (Nat.le_refl (N_fe (S_N S)))
                                  have bt := bst_t ok.1 t (by omega)
                                  first
                                    | (refine aw_drop 6 (aw_drop 7 (aw_drop 8 (aw_drop 9 (iht (t + 1) g7 bs ls lm (by omega) hls hlm (Or.inr ?_)))))
                                       rcases es with ⟨e1, e2, e3, e4⟩ | ⟨e1, e2, e3, e4⟩
                                       · subst e3
                                         subst e4
                                         first
                                           | exact absurd (nI_lt (show mxh (S_N S) (prm (N_n (S_N S)) t) (N_fe (S_N S)) < 1000000000 by omega) (by decide)) c147
                                       · have e : bst (S_N S) (t + 1) = bst (S_N S) t := if_neg (fun z => by
                                           rw [← e3, ← e4] at z
                                           have z := (btr_i (by omega) (by omega) (by omega) (by omega)).mpr z
                                           exact z.elim c147 (fun z => c153 z.1))
                                         rw [e]; exact ⟨by omega, e2, e3, e4⟩)
                                    | (refine aw_drop 6 (aw_drop 7 (aw_drop 8 (aw_drop 9 (iht (t + 1) g7 bs ls lm (by omega) hls hlm (Or.inr ?_)))))
                                       rcases es with ⟨e1, e2, e3, e4⟩ | ⟨e1, e2, e3, e4⟩
                                       · subst e3
                                         subst e4
                                         first
                                           | exact absurd (nI_lt (show mxh (S_N S) (prm (N_n (S_N S)) t) (N_fe (S_N S)) < 1000000000 by omega) (by decide)) c147
                                       · have e : bst (S_N S) (t + 1) = bst (S_N S) t := if_neg (fun z => by
                                           rw [← e3, ← e4] at z
                                           have z := (btr_i (by omega) (by omega) (by omega) (by omega)).mpr z
                                           exact z.elim c147 (fun z => absurd z.2 (Int32.not_lt.mpr c160)))
                                         rw [e]; exact ⟨by omega, e2, e3, e4⟩)
                                    | (refine aw_drop 6 (aw_drop 7 (aw_drop 8 (aw_drop 9 (iht (t + 1) g7 _ (mxh (S_N S) (prm (N_n (S_N S)) t) (N_fe (S_N S))) (smh (S_N S) (prm (N_n (S_N S)) t) (N_fe (S_N S))) (by omega) (by omega) (by omega) (Or.inr ?_)))))
                                       rcases es with ⟨e1, e2, e3, e4⟩ | ⟨e1, e2, e3, e4⟩
                                       · subst e1
                                         rw [bst_1]; exact ⟨by omega, rfl, rfl, rfl⟩
                                       · have e : bst (S_N S) (t + 1) = (t, mxh (S_N S) (prm (N_n (S_N S)) t) (N_fe (S_N S)), smh (S_N S) (prm (N_n (S_N S)) t) (N_fe (S_N S))) := if_pos (by
                                           rw [← e3, ← e4]
                                           exact (btr_i (by omega) (by omega) (by omega) (by omega)).mp (Or.inl c147))
                                         rw [e]; exact ⟨by omega, rfl, rfl, rfl⟩)
                                    | (refine aw_drop 6 (aw_drop 7 (aw_drop 8 (aw_drop 9 (iht (t + 1) g7 _ (mxh (S_N S) (prm (N_n (S_N S)) t) (N_fe (S_N S))) (smh (S_N S) (prm (N_n (S_N S)) t) (N_fe (S_N S))) (by omega) (by omega) (by omega) (Or.inr ?_)))))
                                       rcases es with ⟨e1, e2, e3, e4⟩ | ⟨e1, e2, e3, e4⟩
                                       · subst e1
                                         rw [bst_1]; exact ⟨by omega, rfl, rfl, rfl⟩
                                       · have e : bst (S_N S) (t + 1) = (t, mxh (S_N S) (prm (N_n (S_N S)) t) (N_fe (S_N S)), smh (S_N S) (prm (N_n (S_N S)) t) (N_fe (S_N S))) := if_pos (by
                                           rw [← e3, ← e4]
                                           exact (btr_i (by omega) (by omega) (by omega) (by omega)).mp (Or.inr ⟨c153, Int32.not_le.mp c160⟩))
                                         rw [e]; exact ⟨by omega, rfl, rfl, rfl⟩)
                                · first | exact absurd c196 (by decide) | exact absurd (by decide) c196
                              · first | exact absurd c184 (by decide) | exact absurd (by decide) c184
                            · first | exact absurd c172 (by decide) | exact absurd (by decide) c172
                          · refine aw_iconst (v := nI 1) d_M_best_163 (by decide) ?_
                            refine aw_goto (tgt := 168) d_M_best_164 (by decide) ?_
                            refine aw_istore (L' := [some (.ref 56), some (.int w), some (.int bs), some (.int (nI ls)), some (.int (nI lm)), some (.int (nI t)), some (.int (nI (mxh (S_N S) (prm (N_n (S_N S)) t) (N_fe (S_N S))))), some (.int (nI (smh (S_N S) (prm (N_n (S_N S)) t) (N_fe (S_N S))))), some (.int (nI 1)), none]) d_M_best_168 ⟨by decide, rfl⟩ rfl ?_
                            refine aw_iload d_M_best_170 rfl ?_
                            refine aw_if_eq (tgt := 180) d_M_best_172 (by decide) (fun c172 => ?_) (fun c172 => ?_)
                            · first | exact absurd c172 (by decide) | exact absurd (by decide) c172
                            · refine aw_iload d_M_best_175 rfl ?_
                              refine aw_goto (tgt := 181) d_M_best_177 (by decide) ?_
                              refine aw_istore_n (L' := [some (.ref 56), some (.int w), some (.int (nI t)), some (.int (nI ls)), some (.int (nI lm)), some (.int (nI t)), some (.int (nI (mxh (S_N S) (prm (N_n (S_N S)) t) (N_fe (S_N S))))), some (.int (nI (smh (S_N S) (prm (N_n (S_N S)) t) (N_fe (S_N S))))), some (.int (nI 1)), none]) d_M_best_181 ⟨by decide, rfl⟩ rfl ?_
                              refine aw_iload d_M_best_182 rfl ?_
                              refine aw_if_eq (tgt := 192) d_M_best_184 (by decide) (fun c184 => ?_) (fun c184 => ?_)
                              · first | exact absurd c184 (by decide) | exact absurd (by decide) c184
                              · refine aw_iload d_M_best_187 rfl ?_
                                refine aw_goto (tgt := 193) d_M_best_189 (by decide) ?_
                                refine aw_istore_n (L' := [some (.ref 56), some (.int w), some (.int (nI t)), some (.int (nI (mxh (S_N S) (prm (N_n (S_N S)) t) (N_fe (S_N S))))), some (.int (nI lm)), some (.int (nI t)), some (.int (nI (mxh (S_N S) (prm (N_n (S_N S)) t) (N_fe (S_N S))))), some (.int (nI (smh (S_N S) (prm (N_n (S_N S)) t) (N_fe (S_N S))))), some (.int (nI 1)), none]) d_M_best_193 ⟨by decide, rfl⟩ rfl ?_
                                refine aw_iload d_M_best_194 rfl ?_
                                refine aw_if_eq (tgt := 204) d_M_best_196 (by decide) (fun c196 => ?_) (fun c196 => ?_)
                                · first | exact absurd c196 (by decide) | exact absurd (by decide) c196
                                · refine aw_iload d_M_best_199 rfl ?_
                                  refine aw_goto (tgt := 206) d_M_best_201 (by decide) ?_
                                  refine aw_istore (L' := [some (.ref 56), some (.int w), some (.int (nI t)), some (.int (nI (mxh (S_N S) (prm (N_n (S_N S)) t) (N_fe (S_N S))))), some (.int (nI (smh (S_N S) (prm (N_n (S_N S)) t) (N_fe (S_N S))))), some (.int (nI t)), some (.int (nI (mxh (S_N S) (prm (N_n (S_N S)) t) (N_fe (S_N S))))), some (.int (nI (smh (S_N S) (prm (N_n (S_N S)) t) (N_fe (S_N S))))), some (.int (nI 1)), none]) d_M_best_206 ⟨by decide, rfl⟩ rfl ?_
                                  refine aw_iinc (v := nI (t + 1)) (L' := [some (.ref 56), some (.int w), some (.int (nI t)), some (.int (nI (mxh (S_N S) (prm (N_n (S_N S)) t) (N_fe (S_N S))))), some (.int (nI (smh (S_N S) (prm (N_n (S_N S)) t) (N_fe (S_N S))))), some (.int (nI (t + 1))), some (.int (nI (mxh (S_N S) (prm (N_n (S_N S)) t) (N_fe (S_N S))))), some (.int (nI (smh (S_N S) (prm (N_n (S_N S)) t) (N_fe (S_N S))))), some (.int (nI 1)), none]) d_M_best_208 rfl (nI_1 _) ⟨by decide, rfl⟩ rfl ?_
                                  refine aw_goto (tgt := 71) d_M_best_211 (by decide) ?_
                                  have mx := mxh_le ok.1 px.1 _ (Nat.le_refl (N_fe (S_N S)))
                                  have sm := smh_le ok.1 px.1 (Nat.le_refl (N_fe (S_N S)))
                                  have bt := bst_t ok.1 t (by omega)
                                  first
                                    | (refine aw_drop 6 (aw_drop 7 (aw_drop 8 (aw_drop 9 (iht (t + 1) g7 bs ls lm (by omega) hls hlm (Or.inr ?_)))))
                                       rcases es with ⟨e1, e2, e3, e4⟩ | ⟨e1, e2, e3, e4⟩
                                       · subst e3
                                         subst e4
                                         first
                                           | exact absurd (nI_lt (show mxh (S_N S) (prm (N_n (S_N S)) t) (N_fe (S_N S)) < 1000000000 by omega) (by decide)) c147
                                       · have e : bst (S_N S) (t + 1) = bst (S_N S) t := if_neg (fun z => by
                                           rw [← e3, ← e4] at z
                                           have z := (btr_i (by omega) (by omega) (by omega) (by omega)).mpr z
                                           exact z.elim c147 (fun z => c153 z.1))
                                         rw [e]; exact ⟨by omega, e2, e3, e4⟩)
                                    | (refine aw_drop 6 (aw_drop 7 (aw_drop 8 (aw_drop 9 (iht (t + 1) g7 bs ls lm (by omega) hls hlm (Or.inr ?_)))))
                                       rcases es with ⟨e1, e2, e3, e4⟩ | ⟨e1, e2, e3, e4⟩
                                       · subst e3
                                         subst e4
                                         first
                                           | exact absurd (nI_lt (show mxh (S_N S) (prm (N_n (S_N S)) t) (N_fe (S_N S)) < 1000000000 by omega) (by decide)) c147
                                       · have e : bst (S_N S) (t + 1) = bst (S_N S) t := if_neg (fun z => by
                                           rw [← e3, ← e4] at z
                                           have z := (btr_i (by omega) (by omega) (by omega) (by omega)).mpr z
                                           exact z.elim c147 (fun z => absurd z.2 (Int32.not_lt.mpr c160)))
                                         rw [e]; exact ⟨by omega, e2, e3, e4⟩)
                                    | (refine aw_drop 6 (aw_drop 7 (aw_drop 8 (aw_drop 9 (iht (t + 1) g7 _ (mxh (S_N S) (prm (N_n (S_N S)) t) (N_fe (S_N S))) (smh (S_N S) (prm (N_n (S_N S)) t) (N_fe (S_N S))) (by omega) (by omega) (by omega) (Or.inr ?_)))))
                                       rcases es with ⟨e1, e2, e3, e4⟩ | ⟨e1, e2, e3, e4⟩
                                       · subst e1
                                         rw [bst_1]; exact ⟨by omega, rfl, rfl, rfl⟩
                                       · have e : bst (S_N S) (t + 1) = (t, mxh (S_N S) (prm (N_n (S_N S)) t) (N_fe (S_N S)), smh (S_N S) (prm (N_n (S_N S)) t) (N_fe (S_N S))) := if_pos (by
                                           rw [← e3, ← e4]
                                           exact (btr_i (by omega) (by omega) (by omega) (by omega)).mp (Or.inl c147))
                                         rw [e]; exact ⟨by omega, rfl, rfl, rfl⟩)
                                    | (refine aw_drop 6 (aw_drop 7 (aw_drop 8 (aw_drop 9 (iht (t + 1) g7 _ (mxh (S_N S) (prm (N_n (S_N S)) t) (N_fe (S_N S))) (smh (S_N S) (prm (N_n (S_N S)) t) (N_fe (S_N S))) (by omega) (by omega) (by omega) (Or.inr ?_)))))
                                       rcases es with ⟨e1, e2, e3, e4⟩ | ⟨e1, e2, e3, e4⟩
                                       · subst e1
                                         rw [bst_1]; exact ⟨by omega, rfl, rfl, rfl⟩
                                       · have e : bst (S_N S) (t + 1) = (t, mxh (S_N S) (prm (N_n (S_N S)) t) (N_fe (S_N S)), smh (S_N S) (prm (N_n (S_N S)) t) (N_fe (S_N S))) := if_pos (by
                                           rw [← e3, ← e4]
                                           exact (btr_i (by omega) (by omega) (by omega) (by omega)).mp (Or.inr ⟨c153, Int32.not_le.mp c160⟩))
                                         rw [e]; exact ⟨by omega, rfl, rfl, rfl⟩)
                    · exact absurd (Int32.le_refl _) c95
                  | succ ke ihf =>
                    intro f g7 hf 
                    refine aw_iload d_M_best_89 rfl ?_
                    refine aw_aload_n d_M_best_91 rfl ?_
                    refine aw_get (k := 34) d_M_best_92 cl_Model k_M_187 (by decide) rfl rfl ?_
                    refine aw_icmp_ge (tgt := 144) d_M_best_95 (by decide) (fun c95 => ?_) (fun c95 => ?_)
                    · exact absurd c95 (nI_ge (by omega) (by omega))
                    · refine aw_aload_n d_M_best_98 rfl ?_
                      refine aw_iload d_M_best_99 rfl ?_
                      refine aw_aload_n d_M_best_101 rfl ?_
                      refine aw_get (k := 18) d_M_best_102 cl_Model k_M_50 (by decide) rfl rfl ?_
                      refine aw_bipush (v := nI 6) d_M_best_105 (by decide) ?_
                      refine aw_iload d_M_best_107 rfl ?_
                      refine aw_imul d_M_best_109 ?_
                      rw [pk_mul]
                      refine aw_v0 (a := 56) d_M_best_110 k_M_314 ok_M_harmOf rfl ⟨rfl, rfl⟩ cl_Model rfl (c_MharmOf (h := ab_set (HL h (oM (N_n (S_N S)) (N_ns (S_N S)) (N_ra (S_N S)) (N_se (S_N S)) (N_me (S_N S)) (N_mi (S_N S)) (nI (TT (N_n (S_N S)))) (nI ve) la (S_tl S) at_ wr (N_fe (S_N S)) (S_K S).isSome) g1 g2 g3) 72 (.inl (6, g7))) (N := S_N S) rfl ⟨n0, n1, n2, n3, n4, n5, n6, n7, n8, n9⟩ ok.1 (f := f) (by omega) rfl (A := 68) (NN := 4320) (fo := 6 * t) rfl (by decide) (by omega) px.1 px.2.1 (fun k hk => hly.row (by omega) hk) (by decide) (gt := g7) rfl) rfl rfl (Nat.le_of_ble_eq_true rfl) (fun r m2 h2 q => ?_)
                      obtain ⟨rfl, em, g8, rfl⟩ := q
                      rw [em, ab_set_set]
                      show ab_W _ _ _ _ 113 _ [.int (nI (hrm (S_N S) (N_ff (S_N S) f) (prm (N_n (S_N S)) t) (N_n (S_N S))))] _ _ _
                      refine aw_istore (L' := [some (.ref 56), some (.int w), some (.int bs), some (.int (nI ls)), some (.int (nI lm)), some (.int (nI t)), some (.int (nI (mxh (S_N S) (prm (N_n (S_N S)) t) (f)))), some (.int (nI (smh (S_N S) (prm (N_n (S_N S)) t) (f)))), some (.int (nI (f))), some (.int (nI (hrm (S_N S) (N_ff (S_N S) f) (prm (N_n (S_N S)) t) (N_n (S_N S)))))]) d_M_best_113 ⟨by decide, rfl⟩ rfl ?_
                      refine aw_iload d_M_best_115 rfl ?_
                      refine aw_iload d_M_best_117 rfl ?_
                      refine aw_icmp_le (tgt := 127) d_M_best_119 (by decide) (fun c119 => ?_) (fun c119 => ?_)
                      · refine aw_iload d_M_best_127 rfl ?_
                        refine aw_istore (L' := [some (.ref 56), some (.int w), some (.int bs), some (.int (nI ls)), some (.int (nI lm)), some (.int (nI t)), some (.int (nI (mxh (S_N S) (prm (N_n (S_N S)) t) (f)))), some (.int (nI (smh (S_N S) (prm (N_n (S_N S)) t) (f)))), some (.int (nI (f))), some (.int (nI (hrm (S_N S) (N_ff (S_N S) f) (prm (N_n (S_N S)) t) (N_n (S_N S)))))]) d_M_best_129 ⟨by decide, rfl⟩ rfl ?_
                        refine aw_iload d_M_best_131 rfl ?_
                        refine aw_iload d_M_best_133 rfl ?_
                        refine aw_iadd d_M_best_135 ?_
                        refine aw_topi (fun v136 ev136 => ?_)
                        refine aw_istore (L' := [some (.ref 56), some (.int w), some (.int bs), some (.int (nI ls)), some (.int (nI lm)), some (.int (nI t)), some (.int (nI (mxh (S_N S) (prm (N_n (S_N S)) t) (f)))), some (.int v136), some (.int (nI (f))), some (.int (nI (hrm (S_N S) (N_ff (S_N S) f) (prm (N_n (S_N S)) t) (N_n (S_N S)))))]) d_M_best_136 ⟨by decide, rfl⟩ rfl ?_
                        refine aw_iinc (v := nI ((f) + 1)) (L' := [some (.ref 56), some (.int w), some (.int bs), some (.int (nI ls)), some (.int (nI lm)), some (.int (nI t)), some (.int (nI (mxh (S_N S) (prm (N_n (S_N S)) t) (f)))), some (.int v136), some (.int (nI ((f) + 1))), some (.int (nI (hrm (S_N S) (N_ff (S_N S) f) (prm (N_n (S_N S)) t) (N_n (S_N S)))))]) d_M_best_138 rfl (nI_1 _) ⟨by decide, rfl⟩ rfl ?_
                        refine aw_goto (tgt := 89) d_M_best_141 (by decide) ?_
                        have hh := hrm_le ok.1 (ok.1.fe f (by omega)) px.1 hn6
                        have hmx := mxh_le ok.1 px.1 f (by omega)
                        rw [show v136 = nI (smh (S_N S) (prm (N_n (S_N S)) t) (f + 1)) by rw [ev136, nI_add]; rfl]
                        first
                          | (rw [show mxh (S_N S) (prm (N_n (S_N S)) t) f = mxh (S_N S) (prm (N_n (S_N S)) t) (f + 1) from (if_neg (by have := (nI_leI (by omega) (by omega)).mp c119; omega)).symm]
                             exact aw_drop 9 (ihf (f + 1) g8 (by omega)))
                          | (rw [show nI (hrm (S_N S) (N_ff (S_N S) f) (prm (N_n (S_N S)) t) (N_n (S_N S))) = nI (mxh (S_N S) (prm (N_n (S_N S)) t) (f + 1)) from congrArg nI (if_pos (Nat.not_le.mp (fun z => c119 (nI_le z (by omega))))).symm]
                             exact aw_drop 9 (ihf (f + 1) g8 (by omega)))
                      · refine aw_iload d_M_best_122 rfl ?_
                        refine aw_goto (tgt := 129) d_M_best_124 (by decide) ?_
                        refine aw_istore (L' := [some (.ref 56), some (.int w), some (.int bs), some (.int (nI ls)), some (.int (nI lm)), some (.int (nI t)), some (.int (nI (hrm (S_N S) (N_ff (S_N S) f) (prm (N_n (S_N S)) t) (N_n (S_N S))))), some (.int (nI (smh (S_N S) (prm (N_n (S_N S)) t) (f)))), some (.int (nI (f))), some (.int (nI (hrm (S_N S) (N_ff (S_N S) f) (prm (N_n (S_N S)) t) (N_n (S_N S)))))]) d_M_best_129 ⟨by decide, rfl⟩ rfl ?_
                        refine aw_iload d_M_best_131 rfl ?_
                        refine aw_iload d_M_best_133 rfl ?_
                        refine aw_iadd d_M_best_135 ?_
                        refine aw_topi (fun v136 ev136 => ?_)
                        refine aw_istore (L' := [some (.ref 56), some (.int w), some (.int bs), some (.int (nI ls)), some (.int (nI lm)), some (.int (nI t)), some (.int (nI (hrm (S_N S) (N_ff (S_N S) f) (prm (N_n (S_N S)) t) (N_n (S_N S))))), some (.int v136), some (.int (nI (f))), some (.int (nI (hrm (S_N S) (N_ff (S_N S) f) (prm (N_n (S_N S)) t) (N_n (S_N S)))))]) d_M_best_136 ⟨by decide, rfl⟩ rfl ?_
                        refine aw_iinc (v := nI ((f) + 1)) (L' := [some (.ref 56), some (.int w), some (.int bs), some (.int (nI ls)), some (.int (nI lm)), some (.int (nI t)), some (.int (nI (hrm (S_N S) (N_ff (S_N S) f) (prm (N_n (S_N S)) t) (N_n (S_N S))))), some (.int v136), some (.int (nI ((f) + 1))), some (.int (nI (hrm (S_N S) (N_ff (S_N S) f) (prm (N_n (S_N S)) t) (N_n (S_N S)))))]) d_M_best_138 rfl (nI_1 _) ⟨by decide, rfl⟩ rfl ?_
                        refine aw_goto (tgt := 89) d_M_best_141 (by decide) ?_
                        have hh := hrm_le ok.1 (ok.1.fe f (by omega)) px.1 hn6
                        have hmx := mxh_le ok.1 px.1 f (by omega)
                        rw [show v136 = nI (smh (S_N S) (prm (N_n (S_N S)) t) (f + 1)) by rw [ev136, nI_add]; rfl]
                        first
                          | (rw [show mxh (S_N S) (prm (N_n (S_N S)) t) f = mxh (S_N S) (prm (N_n (S_N S)) t) (f + 1) from (if_neg (by have := (nI_leI (by omega) (by omega)).mp c119; omega)).symm]
                             exact aw_drop 9 (ihf (f + 1) g8 (by omega)))
                          | (rw [show nI (hrm (S_N S) (N_ff (S_N S) f) (prm (N_n (S_N S)) t) (N_n (S_N S))) = nI (mxh (S_N S) (prm (N_n (S_N S)) t) (f + 1)) from congrArg nI (if_pos (Nat.not_le.mp (fun z => c119 (nI_le z (by omega))))).symm]
                             exact aw_drop 9 (ihf (f + 1) g8 (by omega)))
                exact loopf (N_fe (S_N S)) 0 g7 (by omega)
          exact aw_heap (ab_set_eq (h := HL h (oM (N_n (S_N S)) (N_ns (S_N S)) (N_ra (S_N S)) (N_se (S_N S)) (N_me (S_N S)) (N_mi (S_N S)) (nI (TT (N_n (S_N S)))) (nI ve) la (S_tl S) at_ wr (N_fe (S_N S)) (S_K S).isSome) g1 g2 g3) (a := 72) h72) (loopt (TT (N_n (S_N S))) 0 d7 (-4) 1000000000 1000000000 (by omega) (Nat.le_refl _) (Nat.le_refl _) (Or.inl ⟨rfl, rfl, rfl, rfl⟩))
        · refine aw_bipush (v := (-2)) d_M_best_47 (by decide) ?_
          refine aw_ireturn d_M_best_49 rfl rfl ?_
          refine ⟨_, S, rfl, ?_, ⟨⟨tab, la, at_, wr, ve, fs, ft, m0, by omega, by omega, m3, m4, m5, m6⟩, ⟨n0, n1, n2, n3, n4, n5, n6, n7, n8, n9⟩, q1, q2, q3, q4⟩, rfl, fun k _ => rfl⟩
          unfold sp_best
          rw [if_pos irw, if_pos]
          first
            | exact Or.inl ((nI_eq (b := 0) (by omega) (by decide)).mp c37)
            | exact Or.inr ((nI_eq (b := 0) (by omega) (by decide)).mp c44)
    · refine aw_iconst (v := (-1)) d_M_best_31 (by decide) ?_
      refine aw_ireturn d_M_best_32 rfl rfl ?_
      refine ⟨_, S, rfl, ?_, ⟨⟨tab, la, at_, wr, ve, fs, ft, m0, by omega, by omega, m3, m4, m5, m6⟩, ⟨n0, n1, n2, n3, n4, n5, n6, n7, n8, n9⟩, q1, q2, q3, q4⟩, rfl, fun k _ => rfl⟩
      unfold sp_best
      rw [if_neg]
      intro zz
      have z := of_decide_eq_false (ab_bl_0.mp c28)
      rw [i64_toInt, show ((-2 : Int64)).toInt = -2 from by decide] at z
      first
        | (rw [i64_toInt, n_1T hn6] at z
           exact z zz)
        | (rw [show ((-1 : Int64)).toInt = -1 from by decide] at z
           have c9 : N_n (S_N S) ≤ 0 := (nI_leI (b := 0) (by omega) (by decide)).mp c9
           exact z ⟨zz.1, by have := zz.2; omega⟩)
  · refine aw_aload_n d_M_best_12 rfl ?_
    refine aw_get (k := 0) d_M_best_13 cl_Model k_M_118 (by decide) m0 rfl ?_
    refine aw_iconst (v := nI 1) d_M_best_16 (by decide) ?_
    refine aw_isub d_M_best_17 ?_
    refine aw_i2l d_M_best_18 ?_
    refine aw_goto (tgt := 25) d_M_best_19 (by decide) ?_
    refine aw_s0i d_M_best_25 k_M_121 ok_M_in rfl ⟨rfl, rfl⟩ (c_in w.toInt64 (-2) (((nI (N_n (S_N S))) - (nI 1)).toInt64)) rfl rfl (Nat.le_of_ble_eq_true rfl) ?_
    refine aw_if_ne (tgt := 33) d_M_best_28 (by decide) (fun c28 => ?_) (fun c28 => ?_)
    · have irw : ir w (-2) (N_n (S_N S) - 1 : Int) := by
        have z := of_decide_eq_true (ab_bl_1.mp c28)
        rw [i64_toInt, show ((-2 : Int64)).toInt = -2 from by decide] at z
        first
          | (rw [i64_toInt, n_1T hn6] at z
             exact z)
          | (rw [show ((-1 : Int64)).toInt = -1 from by decide] at z
             have c9 : N_n (S_N S) ≤ 0 := (nI_leI (b := 0) (by omega) (by decide)).mp c9
             exact ⟨z.1, by omega⟩)
      refine aw_aload_n d_M_best_33 rfl ?_
      refine aw_get (k := 0) d_M_best_34 cl_Model k_M_118 (by decide) m0 rfl ?_
      refine aw_if_eq (tgt := 47) d_M_best_37 (by decide) (fun c37 => ?_) (fun c37 => ?_)
      · refine aw_bipush (v := (-2)) d_M_best_47 (by decide) ?_
        refine aw_ireturn d_M_best_49 rfl rfl ?_
        refine ⟨_, S, rfl, ?_, ⟨⟨tab, la, at_, wr, ve, fs, ft, m0, by omega, by omega, m3, m4, m5, m6⟩, ⟨n0, n1, n2, n3, n4, n5, n6, n7, n8, n9⟩, q1, q2, q3, q4⟩, rfl, fun k _ => rfl⟩
        unfold sp_best
        rw [if_pos irw, if_pos]
        first
          | exact Or.inl ((nI_eq (b := 0) (by omega) (by decide)).mp c37)
          | exact Or.inr ((nI_eq (b := 0) (by omega) (by decide)).mp c44)
      · refine aw_aload_n d_M_best_40 rfl ?_
        refine aw_get (k := 34) d_M_best_41 cl_Model k_M_187 (by decide) m0 rfl ?_
        refine aw_if_ne (tgt := 50) d_M_best_44 (by decide) (fun c44 => ?_) (fun c44 => ?_)
        · have ne0 : ¬ (N_n (S_N S) = 0 ∨ N_fe (S_N S) = 0) := fun z => z.elim (fun z => c37 (by rw [z]; rfl)) (fun z => c44 (by rw [z]; rfl))
          refine aw_aload_n d_M_best_50 rfl ?_
          refine aw_aload_n d_M_best_51 rfl ?_
          refine aw_get (k := 0) d_M_best_52 cl_Model k_M_118 (by decide) m0 rfl ?_
          refine aw_v0 (a := 56) d_M_best_55 k_M_226 ok_M_lays rfl ⟨rfl, rfl⟩ cl_Model m0 (c_lays m0 hn6 h67 h68 h69) rfl rfl (Nat.le_of_ble_eq_true rfl) (fun r m2 h2 q => ?_)
          obtain ⟨rfl, em, g1, g2, g3, rfl, hly⟩ := q
          rw [em]
          show ab_W _ _ _ _ 58 _ [] _ _ _
          refine aw_bipush (v := (-4)) d_M_best_58 (by decide) ?_
          refine aw_istore_n (L' := [some (.ref 56), some (.int w), some (.int (-4)), none, none, none, none, none, none, none]) d_M_best_60 ⟨by decide, rfl⟩ rfl ?_
          refine aw_ldc (v := nI 1000000000) d_M_best_61 k_M_242 ?_
          refine aw_istore_n (L' := [some (.ref 56), some (.int w), some (.int (-4)), some (.int (nI 1000000000)), none, none, none, none, none, none]) d_M_best_63 ⟨by decide, rfl⟩ rfl ?_
          refine aw_ldc (v := nI 1000000000) d_M_best_64 k_M_242 ?_
          refine aw_istore (L' := [some (.ref 56), some (.int w), some (.int (-4)), some (.int (nI 1000000000)), some (.int (nI 1000000000)), none, none, none, none, none]) d_M_best_66 ⟨by decide, rfl⟩ rfl ?_
          refine aw_iconst (v := nI 0) d_M_best_68 (by decide) ?_
          refine aw_istore (L' := [some (.ref 56), some (.int w), some (.int (-4)), some (.int (nI 1000000000)), some (.int (nI 1000000000)), some (.int (nI 0)), none, none, none, none]) d_M_best_69 ⟨by decide, rfl⟩ rfl ?_
          have loopt : ∀ kf t (g7 : Nat → Int32) (bs : Int32) (ls lm : Nat), t + kf = TT (N_n (S_N S)) → ls ≤ 1000000000 → lm ≤ 1000000000 → ((t = 0 ∧ bs = -4 ∧ ls = 1000000000 ∧ lm = 1000000000) ∨ (0 < t ∧ bs = nI (bst (S_N S) t).1 ∧ ls = (bst (S_N S) t).2.1 ∧ lm = (bst (S_N S) t).2.2)) → ab_W Y_M_best none l (fun r m2 h2 => ∃ (v : Int32) (S2 : SS), r = some (.int v) ∧ (v, S2) = sp_best S w ∧ PM V (c + 1) h2 S2 ∧ m2 = m ∧ ∀ k, (k < 56 ∨ 88 < k) → h2 k = h k) 71 [some (.ref 56), some (.int w), some (.int bs), some (.int (nI ls)), some (.int (nI lm)), some (.int (nI (t))), none, none, none, none] [] m (ab_set (HL h (oM (N_n (S_N S)) (N_ns (S_N S)) (N_ra (S_N S)) (N_se (S_N S)) (N_me (S_N S)) (N_mi (S_N S)) (nI (TT (N_n (S_N S)))) (nI ve) la (S_tl S) at_ wr (N_fe (S_N S)) (S_K S).isSome) g1 g2 g3) 72 (.inl (6, g7))) (0, 0) := by
            intro kf
            induction kf with
            | zero =>
              intro t g7 bs ls lm ht hls hlm es
              have htn : TT (N_n (S_N S)) = t := by omega
              subst htn
              refine aw_iload d_M_best_71 rfl ?_
              refine aw_aload_n d_M_best_73 rfl ?_
              refine aw_get (k := 17) d_M_best_74 cl_Model k_M_220 (by decide) rfl rfl ?_
              refine aw_icmp_ge (tgt := 214) d_M_best_77 (by decide) (fun c77 => ?_) (fun c77 => ?_)
              · refine aw_iload_n d_M_best_214 rfl ?_
                refine aw_iconst (v := (-1)) d_M_best_215 (by decide) ?_
                refine aw_icmp_ne (tgt := 223) d_M_best_216 (by decide) (fun c216 => ?_) (fun c216 => ?_)
                · refine aw_iload_n d_M_best_223 rfl ?_
                  refine aw_bipush (v := (-2)) d_M_best_224 (by decide) ?_
                  refine aw_icmp_ne (tgt := 234) d_M_best_226 (by decide) (fun c226 => ?_) (fun c226 => ?_)
                  · obtain ⟨j, hj, rfl⟩ : ∃ j, j < N_n (S_N S) ∧ w = nI j := by
                      refine irN ⟨?_, irw.2⟩
                      have i1 := irw.1
                      rw [fa_eq] at c216 c226
                      rw [show ((-1 : Int32)).toInt = -1 from by decide] at c216
                      rw [show ((-2 : Int32)).toInt = -2 from by decide] at c226
                      omega
                    have bt := bst_t ok.1 (TT (N_n (S_N S))) (Nat.le_refl _)
                    rcases es with ⟨e1, e2, e3, e4⟩ | ⟨e1, e2, e3, e4⟩
                    · exact absurd e1 (by have := (TT_le hn6).2; omega)
                    subst e2
                    refine aw_aload_n d_M_best_234 rfl ?_
                    refine aw_get (k := 18) d_M_best_235 cl_Model k_M_50 (by decide) rfl rfl ?_
                    refine aw_bipush (v := nI 6) d_M_best_238 (by decide) ?_
                    refine aw_iload_n d_M_best_240 rfl ?_
                    refine aw_imul d_M_best_241 ?_
                    refine aw_iload_n d_M_best_242 rfl ?_
                    refine aw_iadd d_M_best_243 ?_
                    rw [pk_mul, nI_add]
                    refine aw_ialoadN d_M_best_244 rfl (by omega) (by decide) ?_
                    refine aw_ireturn d_M_best_245 rfl rfl ?_
                    refine ⟨_, S, rfl, ?_, PM.mk2 hc (tab2 := nI (TT (N_n (S_N S)))) (la := la) (at_ := at_) (wr := wr) (ve := ve) (fs := fs) (ft := ft) rfl m1 m3 m4 m5 m6 ⟨n0, n1, n2, n3, n4, n5, n6, n7, n8, n9⟩ q1 q2 q4 (fun k h1 h2 h3 h4 => ?_) ⟨q3.1, ⟨g1, rfl⟩, ⟨g2, rfl⟩, ⟨g3, rfl⟩, q3.2.2.2.2.1, q3.2.2.2.2.2.1, ⟨g7, rfl⟩, q3.2.2.2.2.2.2.2⟩, rfl, fun k hk => ?_⟩
                    rotate_left
                    · unfold scr at h3
                      rw [ab_set_ne (by omega), HL_ne (by omega) (by omega)]
                    · rw [ab_set_ne (by omega), HL_ne (by omega) (by omega)]
                    first
                      | (unfold sp_best
                         rw [if_pos irw, if_neg ne0, if_neg c216, if_neg c226, hly.row bt.1 hj, cl_nI (by omega)]; done)
                      | (rcases es with ⟨e1, e2, e3, e4⟩ | ⟨e1, e2, e3, e4⟩
                         · exact absurd e1 (by have := (TT_le hn6).2; omega)
                         unfold sp_best
                         rw [if_pos irw, if_neg ne0, if_pos c216, e3]; done)
                      | (rcases es with ⟨e1, e2, e3, e4⟩ | ⟨e1, e2, e3, e4⟩
                         · exact absurd e1 (by have := (TT_le hn6).2; omega)
                         unfold sp_best
                         rw [if_pos irw, if_neg ne0, if_neg c216, if_pos c226, e4]; done)
                  · refine aw_iload d_M_best_229 rfl ?_
                    refine aw_goto (tgt := 245) d_M_best_231 (by decide) ?_
                    refine aw_ireturn d_M_best_245 rfl rfl ?_
                    refine ⟨_, S, rfl, ?_, PM.mk2 hc (tab2 := nI (TT (N_n (S_N S)))) (la := la) (at_ := at_) (wr := wr) (ve := ve) (fs := fs) (ft := ft) rfl m1 m3 m4 m5 m6 ⟨n0, n1, n2, n3, n4, n5, n6, n7, n8, n9⟩ q1 q2 q4 (fun k h1 h2 h3 h4 => ?_) ⟨q3.1, ⟨g1, rfl⟩, ⟨g2, rfl⟩, ⟨g3, rfl⟩, q3.2.2.2.2.1, q3.2.2.2.2.2.1, ⟨g7, rfl⟩, q3.2.2.2.2.2.2.2⟩, rfl, fun k hk => ?_⟩
                    rotate_left
                    · unfold scr at h3
                      rw [ab_set_ne (by omega), HL_ne (by omega) (by omega)]
                    · rw [ab_set_ne (by omega), HL_ne (by omega) (by omega)]
                    first
                      | (unfold sp_best
                         rw [if_pos irw, if_neg ne0, if_neg c216, if_neg c226, hly.row bt.1 hj, cl_nI (by omega)]; done)
                      | (rcases es with ⟨e1, e2, e3, e4⟩ | ⟨e1, e2, e3, e4⟩
                         · exact absurd e1 (by have := (TT_le hn6).2; omega)
                         unfold sp_best
                         rw [if_pos irw, if_neg ne0, if_pos c216, e3]; done)
                      | (rcases es with ⟨e1, e2, e3, e4⟩ | ⟨e1, e2, e3, e4⟩
                         · exact absurd e1 (by have := (TT_le hn6).2; omega)
                         unfold sp_best
                         rw [if_pos irw, if_neg ne0, if_neg c216, if_pos c226, e4]; done)
                · refine aw_iload_n d_M_best_219 rfl ?_
                  refine aw_goto (tgt := 245) d_M_best_220 (by decide) ?_
                  refine aw_ireturn d_M_best_245 rfl rfl ?_
                  refine ⟨_, S, rfl, ?_, PM.mk2 hc (tab2 := nI (TT (N_n (S_N S)))) (la := la) (at_ := at_) (wr := wr) (ve := ve) (fs := fs) (ft := ft) rfl m1 m3 m4 m5 m6 ⟨n0, n1, n2, n3, n4, n5, n6, n7, n8, n9⟩ q1 q2 q4 (fun k h1 h2 h3 h4 => ?_) ⟨q3.1, ⟨g1, rfl⟩, ⟨g2, rfl⟩, ⟨g3, rfl⟩, q3.2.2.2.2.1, q3.2.2.2.2.2.1, ⟨g7, rfl⟩, q3.2.2.2.2.2.2.2⟩, rfl, fun k hk => ?_⟩
                  rotate_left
                  · unfold scr at h3
                    rw [ab_set_ne (by omega), HL_ne (by omega) (by omega)]
                  · rw [ab_set_ne (by omega), HL_ne (by omega) (by omega)]
                  first
                    | (unfold sp_best
                       rw [if_pos irw, if_neg ne0, if_neg c216, if_neg c226, hly.row bt.1 hj, cl_nI (by omega)]; done)
                    | (rcases es with ⟨e1, e2, e3, e4⟩ | ⟨e1, e2, e3, e4⟩
                       · exact absurd e1 (by have := (TT_le hn6).2; omega)
                       unfold sp_best
                       rw [if_pos irw, if_neg ne0, if_pos c216, e3]; done)
                    | (rcases es with ⟨e1, e2, e3, e4⟩ | ⟨e1, e2, e3, e4⟩
                       · exact absurd e1 (by have := (TT_le hn6).2; omega)
                       unfold sp_best
                       rw [if_pos irw, if_neg ne0, if_neg c216, if_pos c226, e4]; done)
              · exact absurd (Int32.le_refl _) c77
            | succ kf iht =>
              intro t g7 bs ls lm ht hls hlm es
              refine aw_iload d_M_best_71 rfl ?_
              refine aw_aload_n d_M_best_73 rfl ?_
              refine aw_get (k := 17) d_M_best_74 cl_Model k_M_220 (by decide) rfl rfl ?_
              refine aw_icmp_ge (tgt := 214) d_M_best_77 (by decide) (fun c77 => ?_) (fun c77 => ?_)
              · exact absurd c77 (nI_ge (by omega) (by omega))
              · refine aw_iconst (v := nI 0) d_M_best_80 (by decide) ?_
                refine aw_istore (L' := [some (.ref 56), some (.int w), some (.int bs), some (.int (nI ls)), some (.int (nI lm)), some (.int (nI (t))), some (.int (nI 0)), none, none, none]) d_M_best_81 ⟨by decide, rfl⟩ rfl ?_
                refine aw_iconst (v := nI 0) d_M_best_83 (by decide) ?_
                refine aw_istore (L' := [some (.ref 56), some (.int w), some (.int bs), some (.int (nI ls)), some (.int (nI lm)), some (.int (nI (t))), some (.int (nI 0)), some (.int (nI 0)), none, none]) d_M_best_84 ⟨by decide, rfl⟩ rfl ?_
                refine aw_iconst (v := nI 0) d_M_best_86 (by decide) ?_
                refine aw_istore (L' := [some (.ref 56), some (.int w), some (.int bs), some (.int (nI ls)), some (.int (nI lm)), some (.int (nI (t))), some (.int (nI 0)), some (.int (nI 0)), some (.int (nI 0)), none]) d_M_best_87 ⟨by decide, rfl⟩ rfl ?_
                have px := prm_t hn6 (show t < TT (N_n (S_N S)) by omega)
                have loopf : ∀ ke f (g7 : Nat → Int32), f + ke = N_fe (S_N S) → ab_W Y_M_best none l (fun r m2 h2 => ∃ (v : Int32) (S2 : SS), r = some (.int v) ∧ (v, S2) = sp_best S w ∧ PM V (c + 1) h2 S2 ∧ m2 = m ∧ ∀ k, (k < 56 ∨ 88 < k) → h2 k = h k) 89 [some (.ref 56), some (.int w), some (.int bs), some (.int (nI ls)), some (.int (nI lm)), some (.int (nI t)), some (.int (nI (mxh (S_N S) (prm (N_n (S_N S)) t) (f)))), some (.int (nI (smh (S_N S) (prm (N_n (S_N S)) t) (f)))), some (.int (nI (f))), none] [] m (ab_set (HL h (oM (N_n (S_N S)) (N_ns (S_N S)) (N_ra (S_N S)) (N_se (S_N S)) (N_me (S_N S)) (N_mi (S_N S)) (nI (TT (N_n (S_N S)))) (nI ve) la (S_tl S) at_ wr (N_fe (S_N S)) (S_K S).isSome) g1 g2 g3) 72 (.inl (6, g7))) (0, 0) := by
                  intro ke
                  induction ke with
                  | zero =>
                    intro f g7 hf 
                    have hfn : N_fe (S_N S) = f := by omega
                    subst hfn
                    refine aw_iload d_M_best_89 rfl ?_
                    refine aw_aload_n d_M_best_91 rfl ?_
                    refine aw_get (k := 34) d_M_best_92 cl_Model k_M_187 (by decide) rfl rfl ?_
                    refine aw_icmp_ge (tgt := 144) d_M_best_95 (by decide) (fun c95 => ?_) (fun c95 => ?_)
                    · refine aw_iload d_M_best_144 rfl ?_
                      refine aw_iload_n d_M_best_146 rfl ?_
                      refine aw_icmp_lt (tgt := 163) d_M_best_147 (by decide) (fun c147 => ?_) (fun c147 => ?_)
                      · refine aw_iconst (v := nI 1) d_M_best_163 (by decide) ?_
                        refine aw_goto (tgt := 168) d_M_best_164 (by decide) ?_
                        refine aw_istore (L' := [some (.ref 56), some (.int w), some (.int bs), some (.int (nI ls)), some (.int (nI lm)), some (.int (nI t)), some (.int (nI (mxh (S_N S) (prm (N_n (S_N S)) t) (N_fe (S_N S))))), some (.int (nI (smh (S_N S) (prm (N_n (S_N S)) t) (N_fe (S_N S))))), some (.int (nI 1)), none]) d_M_best_168 ⟨by decide, rfl⟩ rfl ?_
                        refine aw_iload d_M_best_170 rfl ?_
                        refine aw_if_eq (tgt := 180) d_M_best_172 (by decide) (fun c172 => ?_) (fun c172 => ?_)
                        · first | exact absurd c172 (by decide) | exact absurd (by decide) c172
                        · refine aw_iload d_M_best_175 rfl ?_
                          refine aw_goto (tgt := 181) d_M_best_177 (by decide) ?_
                          refine aw_istore_n (L' := [some (.ref 56), some (.int w), some (.int (nI t)), some (.int (nI ls)), some (.int (nI lm)), some (.int (nI t)), some (.int (nI (mxh (S_N S) (prm (N_n (S_N S)) t) (N_fe (S_N S))))), some (.int (nI (smh (S_N S) (prm (N_n (S_N S)) t) (N_fe (S_N S))))), some (.int (nI 1)), none]) d_M_best_181 ⟨by decide, rfl⟩ rfl ?_
                          refine aw_iload d_M_best_182 rfl ?_
                          refine aw_if_eq (tgt := 192) d_M_best_184 (by decide) (fun c184 => ?_) (fun c184 => ?_)
                          · first | exact absurd c184 (by decide) | exact absurd (by decide) c184
                          · refine aw_iload d_M_best_187 rfl ?_
                            refine aw_goto (tgt := 193) d_M_best_189 (by decide) ?_
                            refine aw_istore_n (L' := [some (.ref 56), some (.int w), some (.int (nI t)), some (.int (nI (mxh (S_N S) (prm (N_n (S_N S)) t) (N_fe (S_N S))))), some (.int (nI lm)), some (.int (nI t)), some (.int (nI (mxh (S_N S) (prm (N_n (S_N S)) t) (N_fe (S_N S))))), some (.int (nI (smh (S_N S) (prm (N_n (S_N S)) t) (N_fe (S_N S))))), some (.int (nI 1)), none]) d_M_best_193 ⟨by decide, rfl⟩ rfl ?_
                            refine aw_iload d_M_best_194 rfl ?_
                            refine aw_if_eq (tgt := 204) d_M_best_196 (by decide) (fun c196 => ?_) (fun c196 => ?_)
                            · first | exact absurd c196 (by decide) | exact absurd (by decide) c196
                            · refine aw_iload d_M_best_199 rfl ?_
                              refine aw_goto (tgt := 206) d_M_best_201 (by decide) ?_
                              refine aw_istore (L' := [some (.ref 56), some (.int w), some (.int (nI t)), some (.int (nI (mxh (S_N S) (prm (N_n (S_N S)) t) (N_fe (S_N S))))), some (.int (nI (smh (S_N S) (prm (N_n (S_N S)) t) (N_fe (S_N S))))), some (.int (nI t)), some (.int (nI (mxh (S_N S) (prm (N_n (S_N S)) t) (N_fe (S_N S))))), some (.int (nI (smh (S_N S) (prm (N_n (S_N S)) t) (N_fe (S_N S))))), some (.int (nI 1)), none]) d_M_best_206 ⟨by decide, rfl⟩ rfl ?_
                              refine aw_iinc (v := nI (t + 1)) (L' := [some (.ref 56), some (.int w), some (.int (nI t)), some (.int (nI (mxh (S_N S) (prm (N_n (S_N S)) t) (N_fe (S_N S))))), some (.int (nI (smh (S_N S) (prm (N_n (S_N S)) t) (N_fe (S_N S))))), some (.int (nI (t + 1))), some (.int (nI (mxh (S_N S) (prm (N_n (S_N S)) t) (N_fe (S_N S))))), some (.int (nI (smh (S_N S) (prm (N_n (S_N S)) t) (N_fe (S_N S))))), some (.int (nI 1)), none]) d_M_best_208 rfl (nI_1 _) ⟨by decide, rfl⟩ rfl ?_
                              refine aw_goto (tgt := 71) d_M_best_211 (by decide) ?_
                              have mx := mxh_le ok.1 px.1 _ (Nat.le_refl (N_fe (S_N S)))
                              have sm := smh_le ok.1 px.1 (Nat.le_refl (N_fe (S_N S)))
                              have bt := bst_t ok.1 t (by omega)
                              first
                                | (refine aw_drop 6 (aw_drop 7 (aw_drop 8 (aw_drop 9 (iht (t + 1) g7 bs ls lm (by omega) hls hlm (Or.inr ?_)))))
                                   rcases es with ⟨e1, e2, e3, e4⟩ | ⟨e1, e2, e3, e4⟩
                                   · subst e3
                                     subst e4
                                     first
                                       | exact absurd (nI_lt (show mxh (S_N S) (prm (N_n (S_N S)) t) (N_fe (S_N S)) < 1000000000 by omega) (by decide)) c147
                                   · have e : bst (S_N S) (t + 1) = bst (S_N S) t := if_neg (fun z => by
                                       rw [← e3, ← e4] at z
                                       have z := (btr_i (by omega) (by omega) (by omega) (by omega)).mpr z
                                       exact z.elim c147 (fun z => c153 z.1))
                                     rw [e]; exact ⟨by omega, e2, e3, e4⟩)
                                | (refine aw_drop 6 (aw_drop 7 (aw_drop 8 (aw_drop 9 (iht (t + 1) g7 bs ls lm (by omega) hls hlm (Or.inr ?_)))))
                                   rcases es with ⟨e1, e2, e3, e4⟩ | ⟨e1, e2, e3, e4⟩
                                   · subst e3
                                     subst e4
                                     first
                                       | exact absurd (nI_lt (show mxh (S_N S) (prm (N_n (S_N S)) t) (N_fe (S_N S)) < 1000000000 by omega) (by decide)) c147
                                   · have e : bst (S_N S) (t + 1) = bst (S_N S) t := if_neg (fun z => by
                                       rw [← e3, ← e4] at z
                                       have z := (btr_i (by omega) (by omega) (by omega) (by omega)).mpr z
                                       exact z.elim c147 (fun z => absurd z.2 (Int32.not_lt.mpr c160)))
                                     rw [e]; exact ⟨by omega, e2, e3, e4⟩)
                                | (refine aw_drop 6 (aw_drop 7 (aw_drop 8 (aw_drop 9 (iht (t + 1) g7 _ (mxh (S_N S) (prm (N_n (S_N S)) t) (N_fe (S_N S))) (smh (S_N S) (prm (N_n (S_N S)) t) (N_fe (S_N S))) (by omega) (by omega) (by omega) (Or.inr ?_)))))
                                   rcases es with ⟨e1, e2, e3, e4⟩ | ⟨e1, e2, e3, e4⟩
                                   · subst e1
                                     rw [bst_1]; exact ⟨by omega, rfl, rfl, rfl⟩
                                   · have e : bst (S_N S) (t + 1) = (t, mxh (S_N S) (prm (N_n (S_N S)) t) (N_fe (S_N S)), smh (S_N S) (prm (N_n (S_N S)) t) (N_fe (S_N S))) := if_pos (by
                                       rw [← e3, ← e4]
                                       exact (btr_i (by omega) (by omega) (by omega) (by omega)).mp (Or.inl c147))
                                     rw [e]; exact ⟨by omega, rfl, rfl, rfl⟩)
                                | (refine aw_drop 6 (aw_drop 7 (aw_drop 8 (aw_drop 9 (iht (t + 1) g7 _ (mxh (S_N S) (prm (N_n (S_N S)) t) (N_fe (S_N S))) (smh (S_N S) (prm (N_n (S_N S)) t) (N_fe (S_N S))) (by omega) (by omega) (by omega) (Or.inr ?_)))))
                                   rcases es with ⟨e1, e2, e3, e4⟩ | ⟨e1, e2, e3, e4⟩
                                   · subst e1
                                     rw [bst_1]; exact ⟨by omega, rfl, rfl, rfl⟩
                                   · have e : bst (S_N S) (t + 1) = (t, mxh (S_N S) (prm (N_n (S_N S)) t) (N_fe (S_N S)), smh (S_N S) (prm (N_n (S_N S)) t) (N_fe (S_N S))) := if_pos (by
                                       rw [← e3, ← e4]
                                       exact (btr_i (by omega) (by omega) (by omega) (by omega)).mp (Or.inr ⟨c153, Int32.not_le.mp c160⟩))
                                     rw [e]; exact ⟨by omega, rfl, rfl, rfl⟩)
                      · refine aw_iload d_M_best_150 rfl ?_
                        refine aw_iload_n d_M_best_152 rfl ?_
                        refine aw_icmp_ne (tgt := 167) d_M_best_153 (by decide) (fun c153 => ?_) (fun c153 => ?_)
                        · refine aw_iconst (v := nI 0) d_M_best_167 (by decide) ?_
                          refine aw_istore (L' := [some (.ref 56), some (.int w), some (.int bs), some (.int (nI ls)), some (.int (nI lm)), some (.int (nI t)), some (.int (nI (mxh (S_N S) (prm (N_n (S_N S)) t) (N_fe (S_N S))))), some (.int (nI (smh (S_N S) (prm (N_n (S_N S)) t) (N_fe (S_N S))))), some (.int (nI 0)), none]) d_M_best_168 ⟨by decide, rfl⟩ rfl ?_
                          refine aw_iload d_M_best_170 rfl ?_
                          refine aw_if_eq (tgt := 180) d_M_best_172 (by decide) (fun c172 => ?_) (fun c172 => ?_)
                          · refine aw_iload_n d_M_best_180 rfl ?_
                            refine aw_istore_n (L' := [some (.ref 56), some (.int w), some (.int bs), some (.int (nI ls)), some (.int (nI lm)), some (.int (nI t)), some (.int (nI (mxh (S_N S) (prm (N_n (S_N S)) t) (N_fe (S_N S))))), some (.int (nI (smh (S_N S) (prm (N_n (S_N S)) t) (N_fe (S_N S))))), some (.int (nI 0)), none]) d_M_best_181 ⟨by decide, rfl⟩ rfl ?_
                            refine aw_iload d_M_best_182 rfl ?_
                            refine aw_if_eq (tgt := 192) d_M_best_184 (by decide) (fun c184 => ?_) (fun c184 => ?_)
                            · refine aw_iload_n d_M_best_192 rfl ?_
                              refine aw_istore_n (L' := [some (.ref 56), some (.int w), some (.int bs), some (.int (nI ls)), some (.int (nI lm)), some (.int (nI t)), some (.int (nI (mxh (S_N S) (prm (N_n (S_N S)) t) (N_fe (S_N S))))), some (.int (nI (smh (S_N S) (prm (N_n (S_N S)) t) (N_fe (S_N S))))), some (.int (nI 0)), none]) d_M_best_193 ⟨by decide, rfl⟩ rfl ?_
                              refine aw_iload d_M_best_194 rfl ?_
                              refine aw_if_eq (tgt := 204) d_M_best_196 (by decide) (fun c196 => ?_) (fun c196 => ?_)
                              · refine aw_iload d_M_best_204 rfl ?_
                                refine aw_istore (L' := [some (.ref 56), some (.int w), some (.int bs), some (.int (nI ls)), some (.int (nI lm)), some (.int (nI t)), some (.int (nI (mxh (S_N S) (prm (N_n (S_N S)) t) (N_fe (S_N S))))), some (.int (nI (smh (S_N S) (prm (N_n (S_N S)) t) (N_fe (S_N S))))), some (.int (nI 0)), none]) d_M_best_206 ⟨by decide, rfl⟩ rfl ?_
                                refine aw_iinc (v := nI (t + 1)) (L' := [some (.ref 56), some (.int w), some (.int bs), some (.int (nI ls)), some (.int (nI lm)), some (.int (nI (t + 1))), some (.int (nI (mxh (S_N S) (prm (N_n (S_N S)) t) (N_fe (S_N S))))), some (.int (nI (smh (S_N S) (prm (N_n (S_N S)) t) (N_fe (S_N S))))), some (.int (nI 0)), none]) d_M_best_208 rfl (nI_1 _) ⟨by decide, rfl⟩ rfl ?_
                                refine aw_goto (tgt := 71) d_M_best_211 (by decide) ?_
                                have mx := mxh_le ok.1 px.1 _ (Nat.le_refl (N_fe (S_N S)))
                                have sm := smh_le ok.1 px.1 (Nat.le_refl (N_fe (S_N S)))
                                have bt := bst_t ok.1 t (by omega)
                                first
                                  | (refine aw_drop 6 (aw_drop 7 (aw_drop 8 (aw_drop 9 (iht (t + 1) g7 bs ls lm (by omega) hls hlm (Or.inr ?_)))))
                                     rcases es with ⟨e1, e2, e3, e4⟩ | ⟨e1, e2, e3, e4⟩
                                     · subst e3
                                       subst e4
                                       first
                                         | exact absurd (nI_lt (show mxh (S_N S) (prm (N_n (S_N S)) t) (N_fe (S_N S)) < 1000000000 by omega) (by decide)) c147
                                     · have e : bst (S_N S) (t + 1) = bst (S_N S) t := if_neg (fun z => by
                                         rw [← e3, ← e4] at z
                                         have z := (btr_i (by omega) (by omega) (by omega) (by omega)).mpr z
                                         exact z.elim c147 (fun z => c153 z.1))
                                       rw [e]; exact ⟨by omega, e2, e3, e4⟩)
                                  | (refine aw_drop 6 (aw_drop 7 (aw_drop 8 (aw_drop 9 (iht (t + 1) g7 bs ls lm (by omega) hls hlm (Or.inr ?_)))))
                                     rcases es with ⟨e1, e2, e3, e4⟩ | ⟨e1, e2, e3, e4⟩
                                     · subst e3
                                       subst e4
                                       first
                                         | exact absurd (nI_lt (show mxh (S_N S) (prm (N_n (S_N S)) t) (N_fe (S_N S)) < 1000000000 by omega) (by decide)) c147
                                     · have e : bst (S_N S) (t + 1) = bst (S_N S) t := if_neg (fun z => by
                                         rw [← e3, ← e4] at z
                                         have z := (btr_i (by omega) (by omega) (by omega) (by omega)).mpr z
                                         exact z.elim c147 (fun z => absurd z.2 (Int32.not_lt.mpr c160)))
                                       rw [e]; exact ⟨by omega, e2, e3, e4⟩)
                                  | (refine aw_drop 6 (aw_drop 7 (aw_drop 8 (aw_drop 9 (iht (t + 1) g7 _ (mxh (S_N S) (prm (N_n (S_N S)) t) (N_fe (S_N S))) (smh (S_N S) (prm (N_n (S_N S)) t) (N_fe (S_N S))) (by omega) (by omega) (by omega) (Or.inr ?_)))))
                                     rcases es with ⟨e1, e2, e3, e4⟩ | ⟨e1, e2, e3, e4⟩
                                     · subst e1
                                       rw [bst_1]; exact ⟨by omega, rfl, rfl, rfl⟩
                                     · have e : bst (S_N S) (t + 1) = (t, mxh (S_N S) (prm (N_n (S_N S)) t) (N_fe (S_N S)), smh (S_N S) (prm (N_n (S_N S)) t) (N_fe (S_N S))) := if_pos (by
                                         rw [← e3, ← e4]
                                         exact (btr_i (by omega) (by omega) (by omega) (by omega)).mp (Or.inl c147))
                                       rw [e]; exact ⟨by omega, rfl, rfl, rfl⟩)
                                  | (refine aw_drop 6 (aw_drop 7 (aw_drop 8 (aw_drop 9 (iht (t + 1) g7 _ (mxh (S_N S) (prm (N_n (S_N S)) t) (N_fe (S_N S))) (smh (S_N S) (prm (N_n (S_N S)) t) (N_fe (S_N S))) (by omega) (by omega) (by omega) (Or.inr ?_)))))
                                     rcases es with ⟨e1, e2, e3, e4⟩ | ⟨e1, e2, e3, e4⟩
                                     · subst e1
                                       rw [bst_1]; exact ⟨by omega, rfl, rfl, rfl⟩
                                     · have e : bst (S_N S) (t + 1) = (t, mxh (S_N S) (prm (N_n (S_N S)) t) (N_fe (S_N S)), smh (S_N S) (prm (N_n (S_N S)) t) (N_fe (S_N S))) := if_pos (by
                                         rw [← e3, ← e4]
                                         exact (btr_i (by omega) (by omega) (by omega) (by omega)).mp (Or.inr ⟨c153, Int32.not_le.mp c160⟩))
                                       rw [e]; exact ⟨by omega, rfl, rfl, rfl⟩)
                              · first | exact absurd c196 (by decide) | exact absurd (by decide) c196
                            · first | exact absurd c184 (by decide) | exact absurd (by decide) c184
                          · first | exact absurd c172 (by decide) | exact absurd (by decide) c172
                        · refine aw_iload d_M_best_156 rfl ?_
                          refine aw_iload d_M_best_158 rfl ?_
                          refine aw_icmp_ge (tgt := 167) d_M_best_160 (by decide) (fun c160 => ?_) (fun c160 => ?_)
                          · refine aw_iconst (v := nI 0) d_M_best_167 (by decide) ?_
                            refine aw_istore (L' := [some (.ref 56), some (.int w), some (.int bs), some (.int (nI ls)), some (.int (nI lm)), some (.int (nI t)), some (.int (nI (mxh (S_N S) (prm (N_n (S_N S)) t) (N_fe (S_N S))))), some (.int (nI (smh (S_N S) (prm (N_n (S_N S)) t) (N_fe (S_N S))))), some (.int (nI 0)), none]) d_M_best_168 ⟨by decide, rfl⟩ rfl ?_
                            refine aw_iload d_M_best_170 rfl ?_
                            refine aw_if_eq (tgt := 180) d_M_best_172 (by decide) (fun c172 => ?_) (fun c172 => ?_)
                            · refine aw_iload_n d_M_best_180 rfl ?_
                              refine aw_istore_n (L' := [some (.ref 56), some (.int w), some (.int bs), some (.int (nI ls)), some (.int (nI lm)), some (.int (nI t)), some (.int (nI (mxh (S_N S) (prm (N_n (S_N S)) t) (N_fe (S_N S))))), some (.int (nI (smh (S_N S) (prm (N_n (S_N S)) t) (N_fe (S_N S))))), some (.int (nI 0)), none]) d_M_best_181 ⟨by decide, rfl⟩ rfl ?_
                              refine aw_iload d_M_best_182 rfl ?_
                              refine aw_if_eq (tgt := 192) d_M_best_184 (by decide) (fun c184 => ?_) (fun c184 => ?_)
                              · refine aw_iload_n d_M_best_192 rfl ?_
                                refine aw_istore_n (L' := [some (.ref 56), some (.int w), some (.int bs), some (.int (nI ls)), some (.int (nI lm)), some (.int (nI t)), some (.int (nI (mxh (S_N S) (prm (N_n (S_N S)) t) (N_fe (S_N S))))), some (.int (nI (smh (S_N S) (prm (N_n (S_N S)) t) (N_fe (S_N S))))), some (.int (nI 0)), none]) d_M_best_193 ⟨by decide, rfl⟩ rfl ?_
                                refine aw_iload d_M_best_194 rfl ?_
                                refine aw_if_eq (tgt := 204) d_M_best_196 (by decide) (fun c196 => ?_) (fun c196 => ?_)
                                · refine aw_iload d_M_best_204 rfl ?_
                                  refine aw_istore (L' := [some (.ref 56), some (.int w), some (.int bs), some (.int (nI ls)), some (.int (nI lm)), some (.int (nI t)), some (.int (nI (mxh (S_N S) (prm (N_n (S_N S)) t) (N_fe (S_N S))))), some (.int (nI (smh (S_N S) (prm (N_n (S_N S)) t) (N_fe (S_N S))))), some (.int (nI 0)), none]) d_M_best_206 ⟨by decide, rfl⟩ rfl ?_
                                  refine aw_iinc (v := nI (t + 1)) (L' := [some (.ref 56), some (.int w), some (.int bs), some (.int (nI ls)), some (.int (nI lm)), some (.int (nI (t + 1))), some (.int (nI (mxh (S_N S) (prm (N_n (S_N S)) t) (N_fe (S_N S))))), some (.int (nI (smh (S_N S) (prm (N_n (S_N S)) t) (N_fe (S_N S))))), some (.int (nI 0)), none]) d_M_best_208 rfl (nI_1 _) ⟨by decide, rfl⟩ rfl ?_
                                  refine aw_goto (tgt := 71) d_M_best_211 (by decide) ?_
                                  have mx := mxh_le ok.1 px.1 _ (Nat.le_refl (N_fe (S_N S)))
                                  have sm := smh_le ok.1 px.1 (Nat.le_refl (N_fe (S_N S)))
                                  have bt := bst_t ok.1 t (by omega)
                                  first
                                    | (refine aw_drop 6 (aw_drop 7 (aw_drop 8 (aw_drop 9 (iht (t + 1) g7 bs ls lm (by omega) hls hlm (Or.inr ?_)))))
                                       rcases es with ⟨e1, e2, e3, e4⟩ | ⟨e1, e2, e3, e4⟩
                                       · subst e3
                                         subst e4
                                         first
                                           | exact absurd (nI_lt (show mxh (S_N S) (prm (N_n (S_N S)) t) (N_fe (S_N S)) < 1000000000 by omega) (by decide)) c147
                                       · have e : bst (S_N S) (t + 1) = bst (S_N S) t := if_neg (fun z => by
                                           rw [← e3, ← e4] at z
                                           have z := (btr_i (by omega) (by omega) (by omega) (by omega)).mpr z
                                           exact z.elim c147 (fun z => c153 z.1))
                                         rw [e]; exact ⟨by omega, e2, e3, e4⟩)
                                    | (refine aw_drop 6 (aw_drop 7 (aw_drop 8 (aw_drop 9 (iht (t + 1) g7 bs ls lm (by omega) hls hlm (Or.inr ?_)))))
                                       rcases es with ⟨e1, e2, e3, e4⟩ | ⟨e1, e2, e3, e4⟩
                                       · subst e3
                                         subst e4
                                         first
                                           | exact absurd (nI_lt (show mxh (S_N S) (prm (N_n (S_N S)) t) (N_fe (S_N S)) < 1000000000 by omega) (by decide)) c147
                                       · have e : bst (S_N S) (t + 1) = bst (S_N S) t := if_neg (fun z => by
                                           rw [← e3, ← e4] at z
                                           have z := (btr_i (by omega) (by omega) (by omega) (by omega)).mpr z
                                           exact z.elim c147 (fun z => absurd z.2 (Int32.not_lt.mpr c160)))
                                         rw [e]; exact ⟨by omega, e2, e3, e4⟩)
                                    | (refine aw_drop 6 (aw_drop 7 (aw_drop 8 (aw_drop 9 (iht (t + 1) g7 _ (mxh (S_N S) (prm (N_n (S_N S)) t) (N_fe (S_N S))) (smh (S_N S) (prm (N_n (S_N S)) t) (N_fe (S_N S))) (by omega) (by omega) (by omega) (Or.inr ?_)))))
                                       rcases es with ⟨e1, e2, e3, e4⟩ | ⟨e1, e2, e3, e4⟩
                                       · subst e1
                                         rw [bst_1]; exact ⟨by omega, rfl, rfl, rfl⟩
                                       · have e : bst (S_N S) (t + 1) = (t, mxh (S_N S) (prm (N_n (S_N S)) t) (N_fe (S_N S)), smh (S_N S) (prm (N_n (S_N S)) t) (N_fe (S_N S))) := if_pos (by
                                           rw [← e3, ← e4]
                                           exact (btr_i (by omega) (by omega) (by omega) (by omega)).mp (Or.inl c147))
                                         rw [e]; exact ⟨by omega, rfl, rfl, rfl⟩)
                                    | (refine aw_drop 6 (aw_drop 7 (aw_drop 8 (aw_drop 9 (iht (t + 1) g7 _ (mxh (S_N S) (prm (N_n (S_N S)) t) (N_fe (S_N S))) (smh (S_N S) (prm (N_n (S_N S)) t) (N_fe (S_N S))) (by omega) (by omega) (by omega) (Or.inr ?_)))))
                                       rcases es with ⟨e1, e2, e3, e4⟩ | ⟨e1, e2, e3, e4⟩
                                       · subst e1
                                         rw [bst_1]; exact ⟨by omega, rfl, rfl, rfl⟩
                                       · have e : bst (S_N S) (t + 1) = (t, mxh (S_N S) (prm (N_n (S_N S)) t) (N_fe (S_N S)), smh (S_N S) (prm (N_n (S_N S)) t) (N_fe (S_N S))) := if_pos (by
                                           rw [← e3, ← e4]
                                           exact (btr_i (by omega) (by omega) (by omega) (by omega)).mp (Or.inr ⟨c153, Int32.not_le.mp c160⟩))
                                         rw [e]; exact ⟨by omega, rfl, rfl, rfl⟩)
                                · first | exact absurd c196 (by decide) | exact absurd (by decide) c196
                              · first | exact absurd c184 (by decide) | exact absurd (by decide) c184
                            · first | exact absurd c172 (by decide) | exact absurd (by decide) c172
                          · refine aw_iconst (v := nI 1) d_M_best_163 (by decide) ?_
                            refine aw_goto (tgt := 168) d_M_best_164 (by decide) ?_
                            refine aw_istore (L' := [some (.ref 56), some (.int w), some (.int bs), some (.int (nI ls)), some (.int (nI lm)), some (.int (nI t)), some (.int (nI (mxh (S_N S) (prm (N_n (S_N S)) t) (N_fe (S_N S))))), some (.int (nI (smh (S_N S) (prm (N_n (S_N S)) t) (N_fe (S_N S))))), some (.int (nI 1)), none]) d_M_best_168 ⟨by decide, rfl⟩ rfl ?_
                            refine aw_iload d_M_best_170 rfl ?_
                            refine aw_if_eq (tgt := 180) d_M_best_172 (by decide) (fun c172 => ?_) (fun c172 => ?_)
                            · first | exact absurd c172 (by decide) | exact absurd (by decide) c172
                            · refine aw_iload d_M_best_175 rfl ?_
                              refine aw_goto (tgt := 181) d_M_best_177 (by decide) ?_
                              refine aw_istore_n (L' := [some (.ref 56), some (.int w), some (.int (nI t)), some (.int (nI ls)), some (.int (nI lm)), some (.int (nI t)), some (.int (nI (mxh (S_N S) (prm (N_n (S_N S)) t) (N_fe (S_N S))))), some (.int (nI (smh (S_N S) (prm (N_n (S_N S)) t) (N_fe (S_N S))))), some (.int (nI 1)), none]) d_M_best_181 ⟨by decide, rfl⟩ rfl ?_
                              refine aw_iload d_M_best_182 rfl ?_
                              refine aw_if_eq (tgt := 192) d_M_best_184 (by decide) (fun c184 => ?_) (fun c184 => ?_)
                              · first | exact absurd c184 (by decide) | exact absurd (by decide) c184
                              · refine aw_iload d_M_best_187 rfl ?_
                                refine aw_goto (tgt := 193) d_M_best_189 (by decide) ?_
                                refine aw_istore_n (L' := [some (.ref 56), some (.int w), some (.int (nI t)), some (.int (nI (mxh (S_N S) (prm (N_n (S_N S)) t) (N_fe (S_N S))))), some (.int (nI lm)), some (.int (nI t)), some (.int (nI (mxh (S_N S) (prm (N_n (S_N S)) t) (N_fe (S_N S))))), some (.int (nI (smh (S_N S) (prm (N_n (S_N S)) t) (N_fe (S_N S))))), some (.int (nI 1)), none]) d_M_best_193 ⟨by decide, rfl⟩ rfl ?_
                                refine aw_iload d_M_best_194 rfl ?_
                                refine aw_if_eq (tgt := 204) d_M_best_196 (by decide) (fun c196 => ?_) (fun c196 => ?_)
                                · first | exact absurd c196 (by decide) | exact absurd (by decide) c196
                                · refine aw_iload d_M_best_199 rfl ?_
                                  refine aw_goto (tgt := 206) d_M_best_201 (by decide) ?_
                                  refine aw_istore (L' := [some (.ref 56), some (.int w), some (.int (nI t)), some (.int (nI (mxh (S_N S) (prm (N_n (S_N S)) t) (N_fe (S_N S))))), some (.int (nI (smh (S_N S) (prm (N_n (S_N S)) t) (N_fe (S_N S))))), some (.int (nI t)), some (.int (nI (mxh (S_N S) (prm (N_n (S_N S)) t) (N_fe (S_N S))))), some (.int (nI (smh (S_N S) (prm (N_n (S_N S)) t) (N_fe (S_N S))))), some (.int (nI 1)), none]) d_M_best_206 ⟨by decide, rfl⟩ rfl ?_
                                  refine aw_iinc (v := nI (t + 1)) (L' := [some (.ref 56), some (.int w), some (.int (nI t)), some (.int (nI (mxh (S_N S) (prm (N_n (S_N S)) t) (N_fe (S_N S))))), some (.int (nI (smh (S_N S) (prm (N_n (S_N S)) t) (N_fe (S_N S))))), some (.int (nI (t + 1))), some (.int (nI (mxh (S_N S) (prm (N_n (S_N S)) t) (N_fe (S_N S))))), some (.int (nI (smh (S_N S) (prm (N_n (S_N S)) t) (N_fe (S_N S))))), some (.int (nI 1)), none]) d_M_best_208 rfl (nI_1 _) ⟨by decide, rfl⟩ rfl ?_
                                  refine aw_goto (tgt := 71) d_M_best_211 (by decide) ?_
                                  have mx := mxh_le ok.1 px.1 _ (Nat.le_refl (N_fe (S_N S)))
                                  have sm := smh_le ok.1 px.1 (Nat.le_refl (N_fe (S_N S)))
                                  have bt := bst_t ok.1 t (by omega)
                                  first
                                    | (refine aw_drop 6 (aw_drop 7 (aw_drop 8 (aw_drop 9 (iht (t + 1) g7 bs ls lm (by omega) hls hlm (Or.inr ?_)))))
                                       rcases es with ⟨e1, e2, e3, e4⟩ | ⟨e1, e2, e3, e4⟩
                                       · subst e3
                                         subst e4
                                         first
                                           | exact absurd (nI_lt (show mxh (S_N S) (prm (N_n (S_N S)) t) (N_fe (S_N S)) < 1000000000 by omega) (by decide)) c147
                                       · have e : bst (S_N S) (t + 1) = bst (S_N S) t := if_neg (fun z => by
                                           rw [← e3, ← e4] at z
                                           have z := (btr_i (by omega) (by omega) (by omega) (by omega)).mpr z
                                           exact z.elim c147 (fun z => c153 z.1))
                                         rw [e]; exact ⟨by omega, e2, e3, e4⟩)
                                    | (refine aw_drop 6 (aw_drop 7 (aw_drop 8 (aw_drop 9 (iht (t + 1) g7 bs ls lm (by omega) hls hlm (Or.inr ?_)))))
                                       rcases es with ⟨e1, e2, e3, e4⟩ | ⟨e1, e2, e3, e4⟩
                                       · subst e3
                                         subst e4
                                         first
                                           | exact absurd (nI_lt (show mxh (S_N S) (prm (N_n (S_N S)) t) (N_fe (S_N S)) < 1000000000 by omega) (by decide)) c147
                                       · have e : bst (S_N S) (t + 1) = bst (S_N S) t := if_neg (fun z => by
                                           rw [← e3, ← e4] at z
                                           have z := (btr_i (by omega) (by omega) (by omega) (by omega)).mpr z
                                           exact z.elim c147 (fun z => absurd z.2 (Int32.not_lt.mpr c160)))
                                         rw [e]; exact ⟨by omega, e2, e3, e4⟩)
                                    | (refine aw_drop 6 (aw_drop 7 (aw_drop 8 (aw_drop 9 (iht (t + 1) g7 _ (mxh (S_N S) (prm (N_n (S_N S)) t) (N_fe (S_N S))) (smh (S_N S) (prm (N_n (S_N S)) t) (N_fe (S_N S))) (by omega) (by omega) (by omega) (Or.inr ?_)))))
                                       rcases es with ⟨e1, e2, e3, e4⟩ | ⟨e1, e2, e3, e4⟩
                                       · subst e1
                                         rw [bst_1]; exact ⟨by omega, rfl, rfl, rfl⟩
                                       · have e : bst (S_N S) (t + 1) = (t, mxh (S_N S) (prm (N_n (S_N S)) t) (N_fe (S_N S)), smh (S_N S) (prm (N_n (S_N S)) t) (N_fe (S_N S))) := if_pos (by
                                           rw [← e3, ← e4]
                                           exact (btr_i (by omega) (by omega) (by omega) (by omega)).mp (Or.inl c147))
                                         rw [e]; exact ⟨by omega, rfl, rfl, rfl⟩)
                                    | (refine aw_drop 6 (aw_drop 7 (aw_drop 8 (aw_drop 9 (iht (t + 1) g7 _ (mxh (S_N S) (prm (N_n (S_N S)) t) (N_fe (S_N S))) (smh (S_N S) (prm (N_n (S_N S)) t) (N_fe (S_N S))) (by omega) (by omega) (by omega) (Or.inr ?_)))))
                                       rcases es with ⟨e1, e2, e3, e4⟩ | ⟨e1, e2, e3, e4⟩
                                       · subst e1
                                         rw [bst_1]; exact ⟨by omega, rfl, rfl, rfl⟩
                                       · have e : bst (S_N S) (t + 1) = (t, mxh (S_N S) (prm (N_n (S_N S)) t) (N_fe (S_N S)), smh (S_N S) (prm (N_n (S_N S)) t) (N_fe (S_N S))) := if_pos (by
                                           rw [← e3, ← e4]
                                           exact (btr_i (by omega) (by omega) (by omega) (by omega)).mp (Or.inr ⟨c153, Int32.not_le.mp c160⟩))
                                         rw [e]; exact ⟨by omega, rfl, rfl, rfl⟩)
                    · exact absurd (Int32.le_refl _) c95
                  | succ ke ihf =>
                    intro f g7 hf 
                    refine aw_iload d_M_best_89 rfl ?_
                    refine aw_aload_n d_M_best_91 rfl ?_
                    refine aw_get (k := 34) d_M_best_92 cl_Model k_M_187 (by decide) rfl rfl ?_
                    refine aw_icmp_ge (tgt := 144) d_M_best_95 (by decide) (fun c95 => ?_) (fun c95 => ?_)
                    · exact absurd c95 (nI_ge (by omega) (by omega))
                    · refine aw_aload_n d_M_best_98 rfl ?_
                      refine aw_iload d_M_best_99 rfl ?_
                      refine aw_aload_n d_M_best_101 rfl ?_
                      refine aw_get (k := 18) d_M_best_102 cl_Model k_M_50 (by decide) rfl rfl ?_
                      refine aw_bipush (v := nI 6) d_M_best_105 (by decide) ?_
                      refine aw_iload d_M_best_107 rfl ?_
                      refine aw_imul d_M_best_109 ?_
                      rw [pk_mul]
                      refine aw_v0 (a := 56) d_M_best_110 k_M_314 ok_M_harmOf rfl ⟨rfl, rfl⟩ cl_Model rfl (c_MharmOf (h := ab_set (HL h (oM (N_n (S_N S)) (N_ns (S_N S)) (N_ra (S_N S)) (N_se (S_N S)) (N_me (S_N S)) (N_mi (S_N S)) (nI (TT (N_n (S_N S)))) (nI ve) la (S_tl S) at_ wr (N_fe (S_N S)) (S_K S).isSome) g1 g2 g3) 72 (.inl (6, g7))) (N := S_N S) rfl ⟨n0, n1, n2, n3, n4, n5, n6, n7, n8, n9⟩ ok.1 (f := f) (by omega) rfl (A := 68) (NN := 4320) (fo := 6 * t) rfl (by decide) (by omega) px.1 px.2.1 (fun k hk => hly.row (by omega) hk) (by decide) (gt := g7) rfl) rfl rfl (Nat.le_of_ble_eq_true rfl) (fun r m2 h2 q => ?_)
                      obtain ⟨rfl, em, g8, rfl⟩ := q
                      rw [em, ab_set_set]
                      show ab_W _ _ _ _ 113 _ [.int (nI (hrm (S_N S) (N_ff (S_N S) f) (prm (N_n (S_N S)) t) (N_n (S_N S))))] _ _ _
                      refine aw_istore (L' := [some (.ref 56), some (.int w), some (.int bs), some (.int (nI ls)), some (.int (nI lm)), some (.int (nI t)), some (.int (nI (mxh (S_N S) (prm (N_n (S_N S)) t) (f)))), some (.int (nI (smh (S_N S) (prm (N_n (S_N S)) t) (f)))), some (.int (nI (f))), some (.int (nI (hrm (S_N S) (N_ff (S_N S) f) (prm (N_n (S_N S)) t) (N_n (S_N S)))))]) d_M_best_113 ⟨by decide, rfl⟩ rfl ?_
                      refine aw_iload d_M_best_115 rfl ?_
                      refine aw_iload d_M_best_117 rfl ?_
                      refine aw_icmp_le (tgt := 127) d_M_best_119 (by decide) (fun c119 => ?_) (fun c119 => ?_)
                      · refine aw_iload d_M_best_127 rfl ?_
                        refine aw_istore (L' := [some (.ref 56), some (.int w), some (.int bs), some (.int (nI ls)), some (.int (nI lm)), some (.int (nI t)), some (.int (nI (mxh (S_N S) (prm (N_n (S_N S)) t) (f)))), some (.int (nI (smh (S_N S) (prm (N_n (S_N S)) t) (f)))), some (.int (nI (f))), some (.int (nI (hrm (S_N S) (N_ff (S_N S) f) (prm (N_n (S_N S)) t) (N_n (S_N S)))))]) d_M_best_129 ⟨by decide, rfl⟩ rfl ?_
                        refine aw_iload d_M_best_131 rfl ?_
                        refine aw_iload d_M_best_133 rfl ?_
                        refine aw_iadd d_M_best_135 ?_
                        refine aw_topi (fun v136 ev136 => ?_)
                        refine aw_istore (L' := [some (.ref 56), some (.int w), some (.int bs), some (.int (nI ls)), some (.int (nI lm)), some (.int (nI t)), some (.int (nI (mxh (S_N S) (prm (N_n (S_N S)) t) (f)))), some (.int v136), some (.int (nI (f))), some (.int (nI (hrm (S_N S) (N_ff (S_N S) f) (prm (N_n (S_N S)) t) (N_n (S_N S)))))]) d_M_best_136 ⟨by decide, rfl⟩ rfl ?_
                        refine aw_iinc (v := nI ((f) + 1)) (L' := [some (.ref 56), some (.int w), some (.int bs), some (.int (nI ls)), some (.int (nI lm)), some (.int (nI t)), some (.int (nI (mxh (S_N S) (prm (N_n (S_N S)) t) (f)))), some (.int v136), some (.int (nI ((f) + 1))), some (.int (nI (hrm (S_N S) (N_ff (S_N S) f) (prm (N_n (S_N S)) t) (N_n (S_N S)))))]) d_M_best_138 rfl (nI_1 _) ⟨by decide, rfl⟩ rfl ?_
                        refine aw_goto (tgt := 89) d_M_best_141 (by decide) ?_
                        have hh := hrm_le ok.1 (ok.1.fe f (by omega)) px.1 hn6
                        have hmx := mxh_le ok.1 px.1 f (by omega)
                        rw [show v136 = nI (smh (S_N S) (prm (N_n (S_N S)) t) (f + 1)) by rw [ev136, nI_add]; rfl]
                        first
                          | (rw [show mxh (S_N S) (prm (N_n (S_N S)) t) f = mxh (S_N S) (prm (N_n (S_N S)) t) (f + 1) from (if_neg (by have := (nI_leI (by omega) (by omega)).mp c119; omega)).symm]
                             exact aw_drop 9 (ihf (f + 1) g8 (by omega)))
                          | (rw [show nI (hrm (S_N S) (N_ff (S_N S) f) (prm (N_n (S_N S)) t) (N_n (S_N S))) = nI (mxh (S_N S) (prm (N_n (S_N S)) t) (f + 1)) from congrArg nI (if_pos (Nat.not_le.mp (fun z => c119 (nI_le z (by omega))))).symm]
                             exact aw_drop 9 (ihf (f + 1) g8 (by omega)))
                      · refine aw_iload d_M_best_122 rfl ?_
                        refine aw_goto (tgt := 129) d_M_best_124 (by decide) ?_
                        refine aw_istore (L' := [some (.ref 56), some (.int w), some (.int bs), some (.int (nI ls)), some (.int (nI lm)), some (.int (nI t)), some (.int (nI (hrm (S_N S) (N_ff (S_N S) f) (prm (N_n (S_N S)) t) (N_n (S_N S))))), some (.int (nI (smh (S_N S) (prm (N_n (S_N S)) t) (f)))), some (.int (nI (f))), some (.int (nI (hrm (S_N S) (N_ff (S_N S) f) (prm (N_n (S_N S)) t) (N_n (S_N S)))))]) d_M_best_129 ⟨by decide, rfl⟩ rfl ?_
                        refine aw_iload d_M_best_131 rfl ?_
                        refine aw_iload d_M_best_133 rfl ?_
                        refine aw_iadd d_M_best_135 ?_
                        refine aw_topi (fun v136 ev136 => ?_)
                        refine aw_istore (L' := [some (.ref 56), some (.int w), some (.int bs), some (.int (nI ls)), some (.int (nI lm)), some (.int (nI t)), some (.int (nI (hrm (S_N S) (N_ff (S_N S) f) (prm (N_n (S_N S)) t) (N_n (S_N S))))), some (.int v136), some (.int (nI (f))), some (.int (nI (hrm (S_N S) (N_ff (S_N S) f) (prm (N_n (S_N S)) t) (N_n (S_N S)))))]) d_M_best_136 ⟨by decide, rfl⟩ rfl ?_
                        refine aw_iinc (v := nI ((f) + 1)) (L' := [some (.ref 56), some (.int w), some (.int bs), some (.int (nI ls)), some (.int (nI lm)), some (.int (nI t)), some (.int (nI (hrm (S_N S) (N_ff (S_N S) f) (prm (N_n (S_N S)) t) (N_n (S_N S))))), some (.int v136), some (.int (nI ((f) + 1))), some (.int (nI (hrm (S_N S) (N_ff (S_N S) f) (prm (N_n (S_N S)) t) (N_n (S_N S)))))]) d_M_best_138 rfl (nI_1 _) ⟨by decide, rfl⟩ rfl ?_
                        refine aw_goto (tgt := 89) d_M_best_141 (by decide) ?_
                        have hh := hrm_le ok.1 (ok.1.fe f (by omega)) px.1 hn6
                        have hmx := mxh_le ok.1 px.1 f (by omega)
                        rw [show v136 = nI (smh (S_N S) (prm (N_n (S_N S)) t) (f + 1)) by rw [ev136, nI_add]; rfl]
                        first
                          | (rw [show mxh (S_N S) (prm (N_n (S_N S)) t) f = mxh (S_N S) (prm (N_n (S_N S)) t) (f + 1) from (if_neg (by have := (nI_leI (by omega) (by omega)).mp c119; omega)).symm]
                             exact aw_drop 9 (ihf (f + 1) g8 (by omega)))
                          | (rw [show nI (hrm (S_N S) (N_ff (S_N S) f) (prm (N_n (S_N S)) t) (N_n (S_N S))) = nI (mxh (S_N S) (prm (N_n (S_N S)) t) (f + 1)) from congrArg nI (if_pos (Nat.not_le.mp (fun z => c119 (nI_le z (by omega))))).symm]
                             exact aw_drop 9 (ihf (f + 1) g8 (by omega)))
                exact loopf (N_fe (S_N S)) 0 g7 (by omega)
          exact aw_heap (ab_set_eq (h := HL h (oM (N_n (S_N S)) (N_ns (S_N S)) (N_ra (S_N S)) (N_se (S_N S)) (N_me (S_N S)) (N_mi (S_N S)) (nI (TT (N_n (S_N S)))) (nI ve) la (S_tl S) at_ wr (N_fe (S_N S)) (S_K S).isSome) g1 g2 g3) (a := 72) h72) (loopt (TT (N_n (S_N S))) 0 d7 (-4) 1000000000 1000000000 (by omega) (Nat.le_refl _) (Nat.le_refl _) (Or.inl ⟨rfl, rfl, rfl, rfl⟩))
        · refine aw_bipush (v := (-2)) d_M_best_47 (by decide) ?_
          refine aw_ireturn d_M_best_49 rfl rfl ?_
          refine ⟨_, S, rfl, ?_, ⟨⟨tab, la, at_, wr, ve, fs, ft, m0, by omega, by omega, m3, m4, m5, m6⟩, ⟨n0, n1, n2, n3, n4, n5, n6, n7, n8, n9⟩, q1, q2, q3, q4⟩, rfl, fun k _ => rfl⟩
          unfold sp_best
          rw [if_pos irw, if_pos]
          first
            | exact Or.inl ((nI_eq (b := 0) (by omega) (by decide)).mp c37)
            | exact Or.inr ((nI_eq (b := 0) (by omega) (by decide)).mp c44)
    · refine aw_iconst (v := (-1)) d_M_best_31 (by decide) ?_
      refine aw_ireturn d_M_best_32 rfl rfl ?_
      refine ⟨_, S, rfl, ?_, ⟨⟨tab, la, at_, wr, ve, fs, ft, m0, by omega, by omega, m3, m4, m5, m6⟩, ⟨n0, n1, n2, n3, n4, n5, n6, n7, n8, n9⟩, q1, q2, q3, q4⟩, rfl, fun k _ => rfl⟩
      unfold sp_best
      rw [if_neg]
      intro zz
      have z := of_decide_eq_false (ab_bl_0.mp c28)
      rw [i64_toInt, show ((-2 : Int64)).toInt = -2 from by decide] at z
      first
        | (rw [i64_toInt, n_1T hn6] at z
           exact z zz)
        | (rw [show ((-1 : Int64)).toInt = -1 from by decide] at z
           have c9 : N_n (S_N S) ≤ 0 := (nI_leI (b := 0) (by omega) (by decide)).mp c9
           exact z ⟨zz.1, by have := zz.2; omega⟩)
