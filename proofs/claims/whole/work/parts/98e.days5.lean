theorem y_atOnce {V : VV} {m c : Nat} {h : ab_H} {S : SS} (hM : PM V c h S) (ok : S_ok S) (hc : c < 900) (w : Int32) : CM V Y_M_atOnce [.int w] m c h (fun r S2 => SPA S w r ∧ S2 = S) := by
  obtain ⟨⟨tab, la, at_, wr, ve, fs, ft, m0, m1, m2, m3, m4, m5, m6⟩, ⟨n0, n1, n2, n3, n4, n5, n6, n7, n8, n9⟩, q1, q2, q3, q4⟩ := id hM
  have hn6 : N_n (S_N S) ≤ 6 := ok.1.1
  have hnT := nI_toInt (show N_n (S_N S) < 2 ^ 31 by omega)
  obtain ⟨_, ⟨d1, h67⟩, ⟨d2, h68⟩, ⟨d3, h69⟩, _, _, _, ⟨d5, h75⟩, _⟩ := id q3
  obtain ⟨gh, hh6, ah6⟩ := id n3
  obtain ⟨gw, hw6, aw6⟩ := id n5
  have hTb : Tb (N_n (S_N S)) (N_t (S_N S)) := ⟨ok.1.pm, ok.1.2.2.1⟩
  have hTT := (TT_le hn6).1
  refine ab_C.of (L := [some (.ref 56), some (.int w), none, none, none, none, none, none]) rfl rfl (Nat.le_of_ble_eq_true rfl) (fun l => ?_)
  refine aw_iload_n d_M_atOnce_0 rfl ?_
  refine aw_i2l d_M_atOnce_1 ?_
  refine aw_lconst (v := lN 0) d_M_atOnce_2 (by decide) ?_
  refine aw_lconst (v := lN 1) d_M_atOnce_3 (by decide) ?_
  refine aw_s0i d_M_atOnce_4 k_M_121 ok_M_in rfl ⟨rfl, rfl⟩ (c_in w.toInt64 (lN 0) (lN 1)) rfl rfl (Nat.le_of_ble_eq_true rfl) ?_
  refine aw_if_ne (tgt := 12) d_M_atOnce_7 (by decide) (fun c7 => ?_) (fun c7 => ?_)
  · have irw : ir w 0 1 := by
      have := of_decide_eq_true (ab_bl_1.mp c7)
      rw [i64_toInt, tl0, tl1] at this
      exact this
    refine aw_aload_n d_M_atOnce_12 rfl ?_
    refine aw_aload_n d_M_atOnce_13 rfl ?_
    refine aw_get (k := 4) d_M_atOnce_14 cl_Model k_M_19 (by decide) m0 rfl ?_
    refine aw_iconst (v := nI 0) d_M_atOnce_17 (by decide) ?_
    refine aw_v0i (a := 56) d_M_atOnce_18 k_M_216 ok_M_isWell rfl ⟨rfl, rfl⟩ cl_Model m0 (c_isWell m0 hn6 (w := N_w (S_N S)) (gw := gw) hw6 aw6 (A := 60) (NN := 6) (fr := 0) (g := gh) hh6 (by decide) (by omega) hTb.1 hTb.2 (fun k hk => by rw [Nat.zero_add]; exact ah6 k hk)) rfl rfl (Nat.le_of_ble_eq_true rfl) ?_
    refine aw_if_eq (tgt := 26) d_M_atOnce_21 (by decide) (fun c21 => ?_) (fun c21 => ?_)
    · refine aw_aload_n d_M_atOnce_26 rfl ?_
      refine aw_aload_n d_M_atOnce_27 rfl ?_
      refine aw_get (k := 0) d_M_atOnce_28 cl_Model k_M_118 (by decide) m0 rfl ?_
      refine aw_v0 (a := 56) d_M_atOnce_31 k_M_226 ok_M_lays rfl ⟨rfl, rfl⟩ cl_Model m0 (c_lays m0 hn6 h67 h68 h69) rfl rfl (Nat.le_of_ble_eq_true rfl) (fun r m2 h2 q => ?_)
      obtain ⟨rfl, em, g1, g2, g3, rfl, hly⟩ := q
      rw [em]
      show ab_W _ _ _ _ 34 _ [] _ _ _
      refine aw_ldc (v := nI 1000000000) d_M_atOnce_34 k_M_242 ?_
      refine aw_istore_n (L' := [some (.ref 56), some (.int w), some (.int (nI 1000000000)), none, none, none, none, none]) d_M_atOnce_36 ⟨by decide, rfl⟩ rfl ?_
      refine aw_ldc (v := nI 1000000000) d_M_atOnce_37 k_M_242 ?_
      refine aw_istore_n (L' := [some (.ref 56), some (.int w), some (.int (nI 1000000000)), some (.int (nI 1000000000)), none, none, none, none]) d_M_atOnce_39 ⟨by decide, rfl⟩ rfl ?_
      refine aw_iconst (v := nI 0) d_M_atOnce_40 (by decide) ?_
      refine aw_istore (L' := [some (.ref 56), some (.int w), some (.int (nI 1000000000)), some (.int (nI 1000000000)), some (.int (nI 0)), none, none, none]) d_M_atOnce_41 ⟨by decide, rfl⟩ rfl ?_
      have loopt : ∀ kt t (g1 g5 : Nat → Int32) (o1 o2 : Int32), t + kt = TT (N_n (S_N S)) → cur 1000000000 (fun v => ∃ a, a < t ∧ VM (N_n (S_N S)) (N_w (S_N S)) (prm (N_n (S_N S)) a) ∧ ow (fun k => N_t (S_N S) ((prm (N_n (S_N S)) a) k)) (bnd (N_n (S_N S)) (N_w (S_N S)) (N_t (S_N S))) = true ∧ v = mls (fr (S_N S)) (N_n (S_N S)) (prm (N_n (S_N S)) a)) o1 → cur 1000000000 (fun v => ∃ a, a < t ∧ VM (N_n (S_N S)) (N_w (S_N S)) (prm (N_n (S_N S)) a) ∧ ∃ b, b < TT (N_n (S_N S)) ∧ VM (N_n (S_N S)) (N_w (S_N S)) (prm (N_n (S_N S)) b) ∧ ow (fun k => N_t (S_N S) ((prm (N_n (S_N S)) a) ((prm (N_n (S_N S)) b) k))) (bnd (N_n (S_N S)) (N_w (S_N S)) (N_t (S_N S))) = true ∧ v = mls (fr (S_N S)) (N_n (S_N S)) (prm (N_n (S_N S)) a) + mls (fr (S_N S)) (N_n (S_N S)) (prm (N_n (S_N S)) b)) o2 → ab_W Y_M_atOnce none l (fun r m2 h2 => ∃ (v : Int32) (S2 : SS), r = some (.int v) ∧ (SPA S w v ∧ S2 = S) ∧ PM V (c + 1) h2 S2 ∧ m2 = m ∧ ∀ k, (k < 56 ∨ 88 < k) → h2 k = h k) 43 [some (.ref 56), some (.int w), some (.int o1), some (.int o2), some (.int (nI (t))), none, none, none] [] m (ab_set (HL h (oM (N_n (S_N S)) (N_ns (S_N S)) (N_ra (S_N S)) (N_se (S_N S)) (N_me (S_N S)) (N_mi (S_N S)) (nI (TT (N_n (S_N S)))) (nI ve) la (S_tl S) at_ wr (N_fe (S_N S)) (S_K S).isSome) g1 g2 g3) 75 (.inl (6, g5))) (0, 0) := by
        intro kt
        induction kt with
        | zero =>
          intro t g1 g5 o1 o2 ht c1 c2
          have htn : TT (N_n (S_N S)) = t := by omega
          subst htn
          refine aw_iload d_M_atOnce_43 rfl ?_
          refine aw_aload_n d_M_atOnce_45 rfl ?_
          refine aw_get (k := 17) d_M_atOnce_46 cl_Model k_M_220 (by decide) rfl rfl ?_
          refine aw_icmp_ge (tgt := 191) d_M_atOnce_49 (by decide) (fun c49 => ?_) (fun c49 => ?_)
          · refine aw_iload_n d_M_atOnce_191 rfl ?_
            refine aw_if_ne (tgt := 209) d_M_atOnce_192 (by decide) (fun c192 => ?_) (fun c192 => ?_)
            · refine aw_iload_n d_M_atOnce_209 rfl ?_
              refine aw_ldc (v := nI 1000000000) d_M_atOnce_210 k_M_242 ?_
              refine aw_icmp_ge (tgt := 219) d_M_atOnce_212 (by decide) (fun c212 => ?_) (fun c212 => ?_)
              · refine aw_iload_n d_M_atOnce_219 rfl ?_
                refine aw_ireturn d_M_atOnce_220 rfl rfl ?_
                have c1 := c1.iff (P2 := V1 (N_n (S_N S)) (N_w (S_N S)) (N_t (S_N S)) (fr (S_N S))) (fun v => ⟨fun ⟨a, h1, h2, h3⟩ => ⟨num (N_n (S_N S)) a, (h1.1.nu hn6).1, by rw [(h1.1.nu hn6).2]; exact ⟨h1, h2, h3⟩⟩, fun ⟨a, _, h1, h2, h3⟩ => ⟨_, h1, h2, h3⟩⟩)
                have c2 := c2.iff (P2 := V2 (N_n (S_N S)) (N_w (S_N S)) (N_t (S_N S)) (fr (S_N S))) (fun v => ⟨fun ⟨a, b, h1, h2, h3, h4⟩ => ⟨num (N_n (S_N S)) a, (h1.1.nu hn6).1, by rw [(h1.1.nu hn6).2]; exact ⟨h1, num (N_n (S_N S)) b, (h2.1.nu hn6).1, by rw [(h2.1.nu hn6).2]; exact ⟨h2, h3, h4⟩⟩⟩, fun ⟨a, _, h1, b, _, h2, h3, h4⟩ => ⟨_, _, h1, h2, h3, h4⟩⟩)
                have nw : ow (N_t (S_N S)) (bnd (N_n (S_N S)) (N_w (S_N S)) (N_t (S_N S))) = false := by rw [← wlp_ow hn6 hTb.1 hTb.2]; exact ab_bl_0.mp c21
                rcases c1 with ⟨z1, e1⟩ | ⟨v, z1, e1, z3⟩
                · rcases c2 with ⟨y1, _⟩ | ⟨u, y1, y2, y3⟩
                  · obtain ⟨u, hu⟩ := V2_ne ok.1
                    exact absurd hu (y1 u)
                  · have dv : DV (N_n (S_N S)) (N_w (S_N S)) (N_t (S_N S)) (fr (S_N S)) (nI 2) o2 := Or.inr (Or.inr ⟨nw, z1, u, y1, rfl, y2⟩)
                    first
                      | exact absurd (show nI 1000000000 ≤ o1 by rw [e1]; exact Int32.le_refl _) c198
                      | exact absurd (show nI 1000000000 ≤ o1 by rw [e1]; exact Int32.le_refl _) c212
                      | (refine ⟨_, S, rfl, ⟨Or.inr ⟨irw, _, _, dv, ?_⟩, rfl⟩, PM.mk2 hc (tab2 := nI (TT (N_n (S_N S)))) (la := la) (at_ := at_) (wr := wr) (ve := ve) (fs := fs) (ft := ft) rfl m1 m3 m4 m5 m6 ⟨n0, n1, n2, n3, n4, n5, n6, n7, n8, n9⟩ q1 q2 q4 (fun k h1 h2 h3 h4 => by unfold scr at h3; rw [ab_set_ne (by omega), HL_ne (by omega) (by omega)]) ⟨q3.1, ⟨g1, rfl⟩, ⟨g2, rfl⟩, ⟨g3, rfl⟩, q3.2.2.2.2.1, q3.2.2.2.2.2.1, q3.2.2.2.2.2.2.1, ⟨g5, rfl⟩, q3.2.2.2.2.2.2.2.2⟩, rfl, fun k hk => by rw [ab_set_ne (by omega), HL_ne (by omega) (by omega)]⟩
                         rw [if_pos c192]; done)
                      | (refine ⟨_, S, rfl, ⟨Or.inr ⟨irw, _, _, dv, ?_⟩, rfl⟩, PM.mk2 hc (tab2 := nI (TT (N_n (S_N S)))) (la := la) (at_ := at_) (wr := wr) (ve := ve) (fs := fs) (ft := ft) rfl m1 m3 m4 m5 m6 ⟨n0, n1, n2, n3, n4, n5, n6, n7, n8, n9⟩ q1 q2 q4 (fun k h1 h2 h3 h4 => by unfold scr at h3; rw [ab_set_ne (by omega), HL_ne (by omega) (by omega)]) ⟨q3.1, ⟨g1, rfl⟩, ⟨g2, rfl⟩, ⟨g3, rfl⟩, q3.2.2.2.2.1, q3.2.2.2.2.2.1, q3.2.2.2.2.2.2.1, ⟨g5, rfl⟩, q3.2.2.2.2.2.2.2.2⟩, rfl, fun k hk => by rw [ab_set_ne (by omega), HL_ne (by omega) (by omega)]⟩
                         rw [if_neg c192]; done)
                · have dv : DV (N_n (S_N S)) (N_w (S_N S)) (N_t (S_N S)) (fr (S_N S)) (nI 1) o1 := Or.inr (Or.inl ⟨nw, v, z1, rfl, e1⟩)
                  first
                    | exact absurd c198 (by rw [e1]; exact nI_ge (by omega) (by decide))
                    | exact absurd c212 (by rw [e1]; exact nI_ge (by omega) (by decide))
                    | (refine ⟨_, S, rfl, ⟨Or.inr ⟨irw, _, _, dv, ?_⟩, rfl⟩, PM.mk2 hc (tab2 := nI (TT (N_n (S_N S)))) (la := la) (at_ := at_) (wr := wr) (ve := ve) (fs := fs) (ft := ft) rfl m1 m3 m4 m5 m6 ⟨n0, n1, n2, n3, n4, n5, n6, n7, n8, n9⟩ q1 q2 q4 (fun k h1 h2 h3 h4 => by unfold scr at h3; rw [ab_set_ne (by omega), HL_ne (by omega) (by omega)]) ⟨q3.1, ⟨g1, rfl⟩, ⟨g2, rfl⟩, ⟨g3, rfl⟩, q3.2.2.2.2.1, q3.2.2.2.2.2.1, q3.2.2.2.2.2.2.1, ⟨g5, rfl⟩, q3.2.2.2.2.2.2.2.2⟩, rfl, fun k hk => by rw [ab_set_ne (by omega), HL_ne (by omega) (by omega)]⟩
                       rw [if_pos c192]; done)
                    | (refine ⟨_, S, rfl, ⟨Or.inr ⟨irw, _, _, dv, ?_⟩, rfl⟩, PM.mk2 hc (tab2 := nI (TT (N_n (S_N S)))) (la := la) (at_ := at_) (wr := wr) (ve := ve) (fs := fs) (ft := ft) rfl m1 m3 m4 m5 m6 ⟨n0, n1, n2, n3, n4, n5, n6, n7, n8, n9⟩ q1 q2 q4 (fun k h1 h2 h3 h4 => by unfold scr at h3; rw [ab_set_ne (by omega), HL_ne (by omega) (by omega)]) ⟨q3.1, ⟨g1, rfl⟩, ⟨g2, rfl⟩, ⟨g3, rfl⟩, q3.2.2.2.2.1, q3.2.2.2.2.2.1, q3.2.2.2.2.2.2.1, ⟨g5, rfl⟩, q3.2.2.2.2.2.2.2.2⟩, rfl, fun k hk => by rw [ab_set_ne (by omega), HL_ne (by omega) (by omega)]⟩
                       rw [if_neg c192]; done)
              · refine aw_iload_n d_M_atOnce_215 rfl ?_
                refine aw_goto (tgt := 220) d_M_atOnce_216 (by decide) ?_
                refine aw_ireturn d_M_atOnce_220 rfl rfl ?_
                have c1 := c1.iff (P2 := V1 (N_n (S_N S)) (N_w (S_N S)) (N_t (S_N S)) (fr (S_N S))) (fun v => ⟨fun ⟨a, h1, h2, h3⟩ => ⟨num (N_n (S_N S)) a, (h1.1.nu hn6).1, by rw [(h1.1.nu hn6).2]; exact ⟨h1, h2, h3⟩⟩, fun ⟨a, _, h1, h2, h3⟩ => ⟨_, h1, h2, h3⟩⟩)
                have c2 := c2.iff (P2 := V2 (N_n (S_N S)) (N_w (S_N S)) (N_t (S_N S)) (fr (S_N S))) (fun v => ⟨fun ⟨a, b, h1, h2, h3, h4⟩ => ⟨num (N_n (S_N S)) a, (h1.1.nu hn6).1, by rw [(h1.1.nu hn6).2]; exact ⟨h1, num (N_n (S_N S)) b, (h2.1.nu hn6).1, by rw [(h2.1.nu hn6).2]; exact ⟨h2, h3, h4⟩⟩⟩, fun ⟨a, _, h1, b, _, h2, h3, h4⟩ => ⟨_, _, h1, h2, h3, h4⟩⟩)
                have nw : ow (N_t (S_N S)) (bnd (N_n (S_N S)) (N_w (S_N S)) (N_t (S_N S))) = false := by rw [← wlp_ow hn6 hTb.1 hTb.2]; exact ab_bl_0.mp c21
                rcases c1 with ⟨z1, e1⟩ | ⟨v, z1, e1, z3⟩
                · rcases c2 with ⟨y1, _⟩ | ⟨u, y1, y2, y3⟩
                  · obtain ⟨u, hu⟩ := V2_ne ok.1
                    exact absurd hu (y1 u)
                  · have dv : DV (N_n (S_N S)) (N_w (S_N S)) (N_t (S_N S)) (fr (S_N S)) (nI 2) o2 := Or.inr (Or.inr ⟨nw, z1, u, y1, rfl, y2⟩)
                    first
                      | exact absurd (show nI 1000000000 ≤ o1 by rw [e1]; exact Int32.le_refl _) c198
                      | exact absurd (show nI 1000000000 ≤ o1 by rw [e1]; exact Int32.le_refl _) c212
                      | (refine ⟨_, S, rfl, ⟨Or.inr ⟨irw, _, _, dv, ?_⟩, rfl⟩, PM.mk2 hc (tab2 := nI (TT (N_n (S_N S)))) (la := la) (at_ := at_) (wr := wr) (ve := ve) (fs := fs) (ft := ft) rfl m1 m3 m4 m5 m6 ⟨n0, n1, n2, n3, n4, n5, n6, n7, n8, n9⟩ q1 q2 q4 (fun k h1 h2 h3 h4 => by unfold scr at h3; rw [ab_set_ne (by omega), HL_ne (by omega) (by omega)]) ⟨q3.1, ⟨g1, rfl⟩, ⟨g2, rfl⟩, ⟨g3, rfl⟩, q3.2.2.2.2.1, q3.2.2.2.2.2.1, q3.2.2.2.2.2.2.1, ⟨g5, rfl⟩, q3.2.2.2.2.2.2.2.2⟩, rfl, fun k hk => by rw [ab_set_ne (by omega), HL_ne (by omega) (by omega)]⟩
                         rw [if_pos c192]; done)
                      | (refine ⟨_, S, rfl, ⟨Or.inr ⟨irw, _, _, dv, ?_⟩, rfl⟩, PM.mk2 hc (tab2 := nI (TT (N_n (S_N S)))) (la := la) (at_ := at_) (wr := wr) (ve := ve) (fs := fs) (ft := ft) rfl m1 m3 m4 m5 m6 ⟨n0, n1, n2, n3, n4, n5, n6, n7, n8, n9⟩ q1 q2 q4 (fun k h1 h2 h3 h4 => by unfold scr at h3; rw [ab_set_ne (by omega), HL_ne (by omega) (by omega)]) ⟨q3.1, ⟨g1, rfl⟩, ⟨g2, rfl⟩, ⟨g3, rfl⟩, q3.2.2.2.2.1, q3.2.2.2.2.2.1, q3.2.2.2.2.2.2.1, ⟨g5, rfl⟩, q3.2.2.2.2.2.2.2.2⟩, rfl, fun k hk => by rw [ab_set_ne (by omega), HL_ne (by omega) (by omega)]⟩
                         rw [if_neg c192]; done)
                · have dv : DV (N_n (S_N S)) (N_w (S_N S)) (N_t (S_N S)) (fr (S_N S)) (nI 1) o1 := Or.inr (Or.inl ⟨nw, v, z1, rfl, e1⟩)
                  first
                    | exact absurd c198 (by rw [e1]; exact nI_ge (by omega) (by decide))
                    | exact absurd c212 (by rw [e1]; exact nI_ge (by omega) (by decide))
                    | (refine ⟨_, S, rfl, ⟨Or.inr ⟨irw, _, _, dv, ?_⟩, rfl⟩, PM.mk2 hc (tab2 := nI (TT (N_n (S_N S)))) (la := la) (at_ := at_) (wr := wr) (ve := ve) (fs := fs) (ft := ft) rfl m1 m3 m4 m5 m6 ⟨n0, n1, n2, n3, n4, n5, n6, n7, n8, n9⟩ q1 q2 q4 (fun k h1 h2 h3 h4 => by unfold scr at h3; rw [ab_set_ne (by omega), HL_ne (by omega) (by omega)]) ⟨q3.1, ⟨g1, rfl⟩, ⟨g2, rfl⟩, ⟨g3, rfl⟩, q3.2.2.2.2.1, q3.2.2.2.2.2.1, q3.2.2.2.2.2.2.1, ⟨g5, rfl⟩, q3.2.2.2.2.2.2.2.2⟩, rfl, fun k hk => by rw [ab_set_ne (by omega), HL_ne (by omega) (by omega)]⟩
                       rw [if_pos c192]; done)
                    | (refine ⟨_, S, rfl, ⟨Or.inr ⟨irw, _, _, dv, ?_⟩, rfl⟩, PM.mk2 hc (tab2 := nI (TT (N_n (S_N S)))) (la := la) (at_ := at_) (wr := wr) (ve := ve) (fs := fs) (ft := ft) rfl m1 m3 m4 m5 m6 ⟨n0, n1, n2, n3, n4, n5, n6, n7, n8, n9⟩ q1 q2 q4 (fun k h1 h2 h3 h4 => by unfold scr at h3; rw [ab_set_ne (by omega), HL_ne (by omega) (by omega)]) ⟨q3.1, ⟨g1, rfl⟩, ⟨g2, rfl⟩, ⟨g3, rfl⟩, q3.2.2.2.2.1, q3.2.2.2.2.2.1, q3.2.2.2.2.2.2.1, ⟨g5, rfl⟩, q3.2.2.2.2.2.2.2.2⟩, rfl, fun k hk => by rw [ab_set_ne (by omega), HL_ne (by omega) (by omega)]⟩
                       rw [if_neg c192]; done)
            · refine aw_iload_n d_M_atOnce_195 rfl ?_
              refine aw_ldc (v := nI 1000000000) d_M_atOnce_196 k_M_242 ?_
              refine aw_icmp_ge (tgt := 205) d_M_atOnce_198 (by decide) (fun c198 => ?_) (fun c198 => ?_)
              · refine aw_iconst (v := nI 2) d_M_atOnce_205 (by decide) ?_
                refine aw_goto (tgt := 220) d_M_atOnce_206 (by decide) ?_
                refine aw_ireturn d_M_atOnce_220 rfl rfl ?_
                have c1 := c1.iff (P2 := V1 (N_n (S_N S)) (N_w (S_N S)) (N_t (S_N S)) (fr (S_N S))) (fun v => ⟨fun ⟨a, h1, h2, h3⟩ => ⟨num (N_n (S_N S)) a, (h1.1.nu hn6).1, by rw [(h1.1.nu hn6).2]; exact ⟨h1, h2, h3⟩⟩, fun ⟨a, _, h1, h2, h3⟩ => ⟨_, h1, h2, h3⟩⟩)
                have c2 := c2.iff (P2 := V2 (N_n (S_N S)) (N_w (S_N S)) (N_t (S_N S)) (fr (S_N S))) (fun v => ⟨fun ⟨a, b, h1, h2, h3, h4⟩ => ⟨num (N_n (S_N S)) a, (h1.1.nu hn6).1, by rw [(h1.1.nu hn6).2]; exact ⟨h1, num (N_n (S_N S)) b, (h2.1.nu hn6).1, by rw [(h2.1.nu hn6).2]; exact ⟨h2, h3, h4⟩⟩⟩, fun ⟨a, _, h1, b, _, h2, h3, h4⟩ => ⟨_, _, h1, h2, h3, h4⟩⟩)
                have nw : ow (N_t (S_N S)) (bnd (N_n (S_N S)) (N_w (S_N S)) (N_t (S_N S))) = false := by rw [← wlp_ow hn6 hTb.1 hTb.2]; exact ab_bl_0.mp c21
                rcases c1 with ⟨z1, e1⟩ | ⟨v, z1, e1, z3⟩
                · rcases c2 with ⟨y1, _⟩ | ⟨u, y1, y2, y3⟩
                  · obtain ⟨u, hu⟩ := V2_ne ok.1
                    exact absurd hu (y1 u)
                  · have dv : DV (N_n (S_N S)) (N_w (S_N S)) (N_t (S_N S)) (fr (S_N S)) (nI 2) o2 := Or.inr (Or.inr ⟨nw, z1, u, y1, rfl, y2⟩)
                    first
                      | exact absurd (show nI 1000000000 ≤ o1 by rw [e1]; exact Int32.le_refl _) c198
                      | exact absurd (show nI 1000000000 ≤ o1 by rw [e1]; exact Int32.le_refl _) c212
                      | (refine ⟨_, S, rfl, ⟨Or.inr ⟨irw, _, _, dv, ?_⟩, rfl⟩, PM.mk2 hc (tab2 := nI (TT (N_n (S_N S)))) (la := la) (at_ := at_) (wr := wr) (ve := ve) (fs := fs) (ft := ft) rfl m1 m3 m4 m5 m6 ⟨n0, n1, n2, n3, n4, n5, n6, n7, n8, n9⟩ q1 q2 q4 (fun k h1 h2 h3 h4 => by unfold scr at h3; rw [ab_set_ne (by omega), HL_ne (by omega) (by omega)]) ⟨q3.1, ⟨g1, rfl⟩, ⟨g2, rfl⟩, ⟨g3, rfl⟩, q3.2.2.2.2.1, q3.2.2.2.2.2.1, q3.2.2.2.2.2.2.1, ⟨g5, rfl⟩, q3.2.2.2.2.2.2.2.2⟩, rfl, fun k hk => by rw [ab_set_ne (by omega), HL_ne (by omega) (by omega)]⟩
                         rw [if_pos c192]; done)
                      | (refine ⟨_, S, rfl, ⟨Or.inr ⟨irw, _, _, dv, ?_⟩, rfl⟩, PM.mk2 hc (tab2 := nI (TT (N_n (S_N S)))) (la := la) (at_ := at_) (wr := wr) (ve := ve) (fs := fs) (ft := ft) rfl m1 m3 m4 m5 m6 ⟨n0, n1, n2, n3, n4, n5, n6, n7, n8, n9⟩ q1 q2 q4 (fun k h1 h2 h3 h4 => by unfold scr at h3; rw [ab_set_ne (by omega), HL_ne (by omega) (by omega)]) ⟨q3.1, ⟨g1, rfl⟩, ⟨g2, rfl⟩, ⟨g3, rfl⟩, q3.2.2.2.2.1, q3.2.2.2.2.2.1, q3.2.2.2.2.2.2.1, ⟨g5, rfl⟩, q3.2.2.2.2.2.2.2.2⟩, rfl, fun k hk => by rw [ab_set_ne (by omega), HL_ne (by omega) (by omega)]⟩
                         rw [if_neg c192]; done)
                · have dv : DV (N_n (S_N S)) (N_w (S_N S)) (N_t (S_N S)) (fr (S_N S)) (nI 1) o1 := Or.inr (Or.inl ⟨nw, v, z1, rfl, e1⟩)
                  first
                    | exact absurd c198 (by rw [e1]; exact nI_ge (by omega) (by decide))
                    | exact absurd c212 (by rw [e1]; exact nI_ge (by omega) (by decide))
                    | (refine ⟨_, S, rfl, ⟨Or.inr ⟨irw, _, _, dv, ?_⟩, rfl⟩, PM.mk2 hc (tab2 := nI (TT (N_n (S_N S)))) (la := la) (at_ := at_) (wr := wr) (ve := ve) (fs := fs) (ft := ft) rfl m1 m3 m4 m5 m6 ⟨n0, n1, n2, n3, n4, n5, n6, n7, n8, n9⟩ q1 q2 q4 (fun k h1 h2 h3 h4 => by unfold scr at h3; rw [ab_set_ne (by omega), HL_ne (by omega) (by omega)]) ⟨q3.1, ⟨g1, rfl⟩, ⟨g2, rfl⟩, ⟨g3, rfl⟩, q3.2.2.2.2.1, q3.2.2.2.2.2.1, q3.2.2.2.2.2.2.1, ⟨g5, rfl⟩, q3.2.2.2.2.2.2.2.2⟩, rfl, fun k hk => by rw [ab_set_ne (by omega), HL_ne (by omega) (by omega)]⟩
                       rw [if_pos c192]; done)
                    | (refine ⟨_, S, rfl, ⟨Or.inr ⟨irw, _, _, dv, ?_⟩, rfl⟩, PM.mk2 hc (tab2 := nI (TT (N_n (S_N S)))) (la := la) (at_ := at_) (wr := wr) (ve := ve) (fs := fs) (ft := ft) rfl m1 m3 m4 m5 m6 ⟨n0, n1, n2, n3, n4, n5, n6, n7, n8, n9⟩ q1 q2 q4 (fun k h1 h2 h3 h4 => by unfold scr at h3; rw [ab_set_ne (by omega), HL_ne (by omega) (by omega)]) ⟨q3.1, ⟨g1, rfl⟩, ⟨g2, rfl⟩, ⟨g3, rfl⟩, q3.2.2.2.2.1, q3.2.2.2.2.2.1, q3.2.2.2.2.2.2.1, ⟨g5, rfl⟩, q3.2.2.2.2.2.2.2.2⟩, rfl, fun k hk => by rw [ab_set_ne (by omega), HL_ne (by omega) (by omega)]⟩
                       rw [if_neg c192]; done)
              · refine aw_iconst (v := nI 1) d_M_atOnce_201 (by decide) ?_
                refine aw_goto (tgt := 220) d_M_atOnce_202 (by decide) ?_
                refine aw_ireturn d_M_atOnce_220 rfl rfl ?_
                have c1 := c1.iff (P2 := V1 (N_n (S_N S)) (N_w (S_N S)) (N_t (S_N S)) (fr (S_N S))) (fun v => ⟨fun ⟨a, h1, h2, h3⟩ => ⟨num (N_n (S_N S)) a, (h1.1.nu hn6).1, by rw [(h1.1.nu hn6).2]; exact ⟨h1, h2, h3⟩⟩, fun ⟨a, _, h1, h2, h3⟩ => ⟨_, h1, h2, h3⟩⟩)
                have c2 := c2.iff (P2 := V2 (N_n (S_N S)) (N_w (S_N S)) (N_t (S_N S)) (fr (S_N S))) (fun v => ⟨fun ⟨a, b, h1, h2, h3, h4⟩ => ⟨num (N_n (S_N S)) a, (h1.1.nu hn6).1, by rw [(h1.1.nu hn6).2]; exact ⟨h1, num (N_n (S_N S)) b, (h2.1.nu hn6).1, by rw [(h2.1.nu hn6).2]; exact ⟨h2, h3, h4⟩⟩⟩, fun ⟨a, _, h1, b, _, h2, h3, h4⟩ => ⟨_, _, h1, h2, h3, h4⟩⟩)
                have nw : ow (N_t (S_N S)) (bnd (N_n (S_N S)) (N_w (S_N S)) (N_t (S_N S))) = false := by rw [← wlp_ow hn6 hTb.1 hTb.2]; exact ab_bl_0.mp c21
                rcases c1 with ⟨z1, e1⟩ | ⟨v, z1, e1, z3⟩
                · rcases c2 with ⟨y1, _⟩ | ⟨u, y1, y2, y3⟩
                  · obtain ⟨u, hu⟩ := V2_ne ok.1
                    exact absurd hu (y1 u)
                  · have dv : DV (N_n (S_N S)) (N_w (S_N S)) (N_t (S_N S)) (fr (S_N S)) (nI 2) o2 := Or.inr (Or.inr ⟨nw, z1, u, y1, rfl, y2⟩)
                    first
                      | exact absurd (show nI 1000000000 ≤ o1 by rw [e1]; exact Int32.le_refl _) c198
                      | exact absurd (show nI 1000000000 ≤ o1 by rw [e1]; exact Int32.le_refl _) c212
                      | (refine ⟨_, S, rfl, ⟨Or.inr ⟨irw, _, _, dv, ?_⟩, rfl⟩, PM.mk2 hc (tab2 := nI (TT (N_n (S_N S)))) (la := la) (at_ := at_) (wr := wr) (ve := ve) (fs := fs) (ft := ft) rfl m1 m3 m4 m5 m6 ⟨n0, n1, n2, n3, n4, n5, n6, n7, n8, n9⟩ q1 q2 q4 (fun k h1 h2 h3 h4 => by unfold scr at h3; rw [ab_set_ne (by omega), HL_ne (by omega) (by omega)]) ⟨q3.1, ⟨g1, rfl⟩, ⟨g2, rfl⟩, ⟨g3, rfl⟩, q3.2.2.2.2.1, q3.2.2.2.2.2.1, q3.2.2.2.2.2.2.1, ⟨g5, rfl⟩, q3.2.2.2.2.2.2.2.2⟩, rfl, fun k hk => by rw [ab_set_ne (by omega), HL_ne (by omega) (by omega)]⟩
                         rw [if_pos c192]; done)
                      | (refine ⟨_, S, rfl, ⟨Or.inr ⟨irw, _, _, dv, ?_⟩, rfl⟩, PM.mk2 hc (tab2 := nI (TT (N_n (S_N S)))) (la := la) (at_ := at_) (wr := wr) (ve := ve) (fs := fs) (ft := ft) rfl m1 m3 m4 m5 m6 ⟨n0, n1, n2, n3, n4, n5, n6, n7, n8, n9⟩ q1 q2 q4 (fun k h1 h2 h3 h4 => by unfold scr at h3; rw [ab_set_ne (by omega), HL_ne (by omega) (by omega)]) ⟨q3.1, ⟨g1, rfl⟩, ⟨g2, rfl⟩, ⟨g3, rfl⟩, q3.2.2.2.2.1, q3.2.2.2.2.2.1, q3.2.2.2.2.2.2.1, ⟨g5, rfl⟩, q3.2.2.2.2.2.2.2.2⟩, rfl, fun k hk => by rw [ab_set_ne (by omega), HL_ne (by omega) (by omega)]⟩
                         rw [if_neg c192]; done)
                · have dv : DV (N_n (S_N S)) (N_w (S_N S)) (N_t (S_N S)) (fr (S_N S)) (nI 1) o1 := Or.inr (Or.inl ⟨nw, v, z1, rfl, e1⟩)
                  first
                    | exact absurd c198 (by rw [e1]; exact nI_ge (by omega) (by decide))
                    | exact absurd c212 (by rw [e1]; exact nI_ge (by omega) (by decide))
                    | (refine ⟨_, S, rfl, ⟨Or.inr ⟨irw, _, _, dv, ?_⟩, rfl⟩, PM.mk2 hc (tab2 := nI (TT (N_n (S_N S)))) (la := la) (at_ := at_) (wr := wr) (ve := ve) (fs := fs) (ft := ft) rfl m1 m3 m4 m5 m6 ⟨n0, n1, n2, n3, n4, n5, n6, n7, n8, n9⟩ q1 q2 q4 (fun k h1 h2 h3 h4 => by unfold scr at h3; rw [ab_set_ne (by omega), HL_ne (by omega) (by omega)]) ⟨q3.1, ⟨g1, rfl⟩, ⟨g2, rfl⟩, ⟨g3, rfl⟩, q3.2.2.2.2.1, q3.2.2.2.2.2.1, q3.2.2.2.2.2.2.1, ⟨g5, rfl⟩, q3.2.2.2.2.2.2.2.2⟩, rfl, fun k hk => by rw [ab_set_ne (by omega), HL_ne (by omega) (by omega)]⟩
                       rw [if_pos c192]; done)
                    | (refine ⟨_, S, rfl, ⟨Or.inr ⟨irw, _, _, dv, ?_⟩, rfl⟩, PM.mk2 hc (tab2 := nI (TT (N_n (S_N S)))) (la := la) (at_ := at_) (wr := wr) (ve := ve) (fs := fs) (ft := ft) rfl m1 m3 m4 m5 m6 ⟨n0, n1, n2, n3, n4, n5, n6, n7, n8, n9⟩ q1 q2 q4 (fun k h1 h2 h3 h4 => by unfold scr at h3; rw [ab_set_ne (by omega), HL_ne (by omega) (by omega)]) ⟨q3.1, ⟨g1, rfl⟩, ⟨g2, rfl⟩, ⟨g3, rfl⟩, q3.2.2.2.2.1, q3.2.2.2.2.2.1, q3.2.2.2.2.2.2.1, ⟨g5, rfl⟩, q3.2.2.2.2.2.2.2.2⟩, rfl, fun k hk => by rw [ab_set_ne (by omega), HL_ne (by omega) (by omega)]⟩
                       rw [if_neg c192]; done)
          · exact absurd (Int32.le_refl _) c49
        | succ kt iht =>
          intro t g1 g5 o1 o2 ht c1 c2
          refine aw_iload d_M_atOnce_43 rfl ?_
          refine aw_aload_n d_M_atOnce_45 rfl ?_
          refine aw_get (k := 17) d_M_atOnce_46 cl_Model k_M_220 (by decide) rfl rfl ?_
          refine aw_icmp_ge (tgt := 191) d_M_atOnce_49 (by decide) (fun c49 => ?_) (fun c49 => ?_)
          · exact absurd c49 (nI_ge (by omega) (by omega))
          · have ht9 := Tb.pr_ hn6 (show t < TT (N_n (S_N S)) by omega)
            have mt := mls_le ok.1 ht9.1
            have h1t : Tb (N_n (S_N S)) (fun k => N_t (S_N S) ((prm (N_n (S_N S)) t) k)) := ⟨hTb.1.comp ht9.1, fun k hk => by show N_t (S_N S) ((prm (N_n (S_N S)) t) k) = k; rw [ht9.2 k hk, hTb.2 k hk]⟩
            refine aw_aload_n d_M_atOnce_52 rfl ?_
            refine aw_iload d_M_atOnce_53 rfl ?_
            refine aw_v0i (a := 56) d_M_atOnce_55 k_M_257 ok_M_isPairs rfl ⟨rfl, rfl⟩ cl_Model rfl (c_isPairs (h := ab_set (HL h (oM (N_n (S_N S)) (N_ns (S_N S)) (N_ra (S_N S)) (N_se (S_N S)) (N_me (S_N S)) (N_mi (S_N S)) (nI (TT (N_n (S_N S)))) (nI ve) la (S_tl S) at_ wr (N_fe (S_N S)) (S_K S).isSome) g1 g2 g3) 75 (.inl (6, g5))) (N := S_N S) rfl ⟨n0, n1, n2, n3, n4, n5, n6, n7, n8, n9⟩ ok.1 (g2 := g2) rfl hly (show t < TT (N_n (S_N S)) by omega)) rfl rfl (Nat.le_of_ble_eq_true rfl) ?_
            refine aw_if_eq (tgt := 185) d_M_atOnce_58 (by decide) (fun c58 => ?_) (fun c58 => ?_)
            · refine aw_iinc (v := nI ((t) + 1)) (L' := [some (.ref 56), some (.int w), some (.int o1), some (.int o2), some (.int (nI ((t) + 1))), none, none, none]) d_M_atOnce_185 rfl (nI_1 _) ⟨by decide, rfl⟩ rfl ?_
              refine aw_goto (tgt := 43) d_M_atOnce_188 (by decide) ?_
              have nv : ¬ VM (N_n (S_N S)) (N_w (S_N S)) (prm (N_n (S_N S)) t) := fun z => by rw [(prs_VM ok.1 ht9).mpr z] at c58; exact absurd c58 (by decide)
              exact iht (t + 1) g1 g5 o1 o2 (by omega) (c1.iff (fun v => ⟨fun z => by
                obtain ⟨a, ha, z⟩ := z
                by_cases e : a = t
                · subst e; exact absurd z.1 nv
                · exact ⟨a, by omega, z⟩, fun ⟨a, ha, z⟩ => ⟨a, by omega, z⟩⟩)) (c2.iff (fun v => ⟨fun z => by
                obtain ⟨a, ha, z⟩ := z
                by_cases e : a = t
                · subst e; exact absurd z.1 nv
                · exact ⟨a, by omega, z⟩, fun ⟨a, ha, z⟩ => ⟨a, by omega, z⟩⟩))
            · have vt := (prs_VM ok.1 ht9).mp (ab_bl_1.mp c58)
              refine aw_aload_n d_M_atOnce_61 rfl ?_
              refine aw_iload d_M_atOnce_62 rfl ?_
              refine aw_aload_n d_M_atOnce_64 rfl ?_
              refine aw_get (k := 4) d_M_atOnce_65 cl_Model k_M_19 (by decide) rfl rfl ?_
              refine aw_aload_n d_M_atOnce_68 rfl ?_
              refine aw_get (k := 16) d_M_atOnce_69 cl_Model k_M_47 (by decide) rfl rfl ?_
              refine aw_v0 (a := 56) d_M_atOnce_72 k_M_260 ok_M_changes rfl ⟨rfl, rfl⟩ cl_Model rfl (c_changes (h := ab_set (HL h (oM (N_n (S_N S)) (N_ns (S_N S)) (N_ra (S_N S)) (N_se (S_N S)) (N_me (S_N S)) (N_mi (S_N S)) (nI (TT (N_n (S_N S)))) (nI ve) la (S_tl S) at_ wr (N_fe (S_N S)) (S_K S).isSome) g1 g2 g3) 75 (.inl (6, g5))) (N := S_N S) rfl ok.1 (g2 := g2) rfl hly (show t < TT (N_n (S_N S)) by omega) (A := 60) (B := 67) (g := gh) (gb := g1) hh6 rfl (by decide) (by decide) (by decide) (y := N_t (S_N S)) ah6) rfl rfl (Nat.le_of_ble_eq_true rfl) (fun r m2 h2 z => ?_)
              obtain ⟨rfl, em, g1, rfl, eg1⟩ := z
              rw [em, ab_set_swap (show 75 ≠ 67 by decide), hl_67]
              show ab_W _ _ _ _ 75 _ [] _ _ _
              refine aw_aload_n d_M_atOnce_75 rfl ?_
              refine aw_iload d_M_atOnce_76 rfl ?_
              refine aw_v0i (a := 56) d_M_atOnce_78 k_M_264 ok_M_pairMiles rfl ⟨rfl, rfl⟩ cl_Model rfl (c_pairMiles (h := ab_set (HL h (oM (N_n (S_N S)) (N_ns (S_N S)) (N_ra (S_N S)) (N_se (S_N S)) (N_me (S_N S)) (N_mi (S_N S)) (nI (TT (N_n (S_N S)))) (nI ve) la (S_tl S) at_ wr (N_fe (S_N S)) (S_K S).isSome) g1 g2 g3) 75 (.inl (6, g5))) (N := S_N S) rfl ⟨n0, n1, n2, n3, n4, n5, n6, n7, n8, n9⟩ ok.1 (g2 := g2) rfl hly (show t < TT (N_n (S_N S)) by omega)) rfl rfl (Nat.le_of_ble_eq_true rfl) ?_
              refine aw_istore (L' := [some (.ref 56), some (.int w), some (.int o1), some (.int o2), some (.int (nI (t))), some (.int (nI (mls (fr (S_N S)) (N_n (S_N S)) (prm (N_n (S_N S)) t)))), none, none]) d_M_atOnce_81 ⟨by decide, rfl⟩ rfl ?_
              refine aw_aload_n d_M_atOnce_83 rfl ?_
              refine aw_aload_n d_M_atOnce_84 rfl ?_
              refine aw_get (k := 16) d_M_atOnce_85 cl_Model k_M_47 (by decide) rfl rfl ?_
              refine aw_iconst (v := nI 0) d_M_atOnce_88 (by decide) ?_
              refine aw_v0i (a := 56) d_M_atOnce_89 k_M_216 ok_M_isWell rfl ⟨rfl, rfl⟩ cl_Model rfl (c_isWell (h := ab_set (HL h (oM (N_n (S_N S)) (N_ns (S_N S)) (N_ra (S_N S)) (N_se (S_N S)) (N_me (S_N S)) (N_mi (S_N S)) (nI (TT (N_n (S_N S)))) (nI ve) la (S_tl S) at_ wr (N_fe (S_N S)) (S_K S).isSome) g1 g2 g3) 75 (.inl (6, g5))) (n := N_n (S_N S)) rfl hn6 (w := N_w (S_N S)) (gw := gw) hw6 aw6 (A := 67) (NN := 6) (fr := 0) (g := g1) rfl (by decide) (by omega) h1t.1 h1t.2 (fun k hk => by rw [Nat.zero_add]; exact eg1 k hk)) rfl rfl (Nat.le_of_ble_eq_true rfl) ?_
              refine aw_if_eq (tgt := 106) d_M_atOnce_92 (by decide) (fun c92 => ?_) (fun c92 => ?_)
              · refine aw_iload_n d_M_atOnce_106 rfl ?_
                refine aw_istore_n (L' := [some (.ref 56), some (.int w), some (.int o1), some (.int o2), some (.int (nI (t))), some (.int (nI (mls (fr (S_N S)) (N_n (S_N S)) (prm (N_n (S_N S)) t)))), none, none]) d_M_atOnce_107 ⟨by decide, rfl⟩ rfl ?_
                have c108 : ∀ (o1 : Int32), cur 1000000000 (fun v => ∃ a, a < (t + 1) ∧ VM (N_n (S_N S)) (N_w (S_N S)) (prm (N_n (S_N S)) a) ∧ ow (fun k => N_t (S_N S) ((prm (N_n (S_N S)) a) k)) (bnd (N_n (S_N S)) (N_w (S_N S)) (N_t (S_N S))) = true ∧ v = mls (fr (S_N S)) (N_n (S_N S)) (prm (N_n (S_N S)) a)) o1 → ab_W Y_M_atOnce none l (fun r m2 h2 => ∃ (v : Int32) (S2 : SS), r = some (.int v) ∧ (SPA S w v ∧ S2 = S) ∧ PM V (c + 1) h2 S2 ∧ m2 = m ∧ ∀ k, (k < 56 ∨ 88 < k) → h2 k = h k) 108 [some (.ref 56), some (.int w), some (.int o1), some (.int o2), some (.int (nI (t))), some (.int (nI (mls (fr (S_N S)) (N_n (S_N S)) (prm (N_n (S_N S)) t)))), none, none] [] m (ab_set (HL h (oM (N_n (S_N S)) (N_ns (S_N S)) (N_ra (S_N S)) (N_se (S_N S)) (N_me (S_N S)) (N_mi (S_N S)) (nI (TT (N_n (S_N S)))) (nI ve) la (S_tl S) at_ wr (N_fe (S_N S)) (S_K S).isSome) g1 g2 g3) 75 (.inl (6, g5))) (0, 0) := by
                  intro o1 c1n
                  refine aw_iconst (v := nI 0) d_M_atOnce_108 (by decide) ?_
                  refine aw_istore (L' := [some (.ref 56), some (.int w), some (.int o1), some (.int o2), some (.int (nI (t))), some (.int (nI (mls (fr (S_N S)) (N_n (S_N S)) (prm (N_n (S_N S)) t)))), some (.int (nI 0)), none]) d_M_atOnce_109 ⟨by decide, rfl⟩ rfl ?_
                  have loopu : ∀ ku u (g5 : Nat → Int32) (o2 : Int32), u + ku = TT (N_n (S_N S)) → cur 1000000000 (fun v => (∃ a, a < t ∧ VM (N_n (S_N S)) (N_w (S_N S)) (prm (N_n (S_N S)) a) ∧ ∃ b, b < TT (N_n (S_N S)) ∧ VM (N_n (S_N S)) (N_w (S_N S)) (prm (N_n (S_N S)) b) ∧ ow (fun k => N_t (S_N S) ((prm (N_n (S_N S)) a) ((prm (N_n (S_N S)) b) k))) (bnd (N_n (S_N S)) (N_w (S_N S)) (N_t (S_N S))) = true ∧ v = mls (fr (S_N S)) (N_n (S_N S)) (prm (N_n (S_N S)) a) + mls (fr (S_N S)) (N_n (S_N S)) (prm (N_n (S_N S)) b)) ∨ (VM (N_n (S_N S)) (N_w (S_N S)) (prm (N_n (S_N S)) t) ∧ ∃ b, b < u ∧ VM (N_n (S_N S)) (N_w (S_N S)) (prm (N_n (S_N S)) b) ∧ ow (fun k => N_t (S_N S) ((prm (N_n (S_N S)) t) ((prm (N_n (S_N S)) b) k))) (bnd (N_n (S_N S)) (N_w (S_N S)) (N_t (S_N S))) = true ∧ v = mls (fr (S_N S)) (N_n (S_N S)) (prm (N_n (S_N S)) t) + mls (fr (S_N S)) (N_n (S_N S)) (prm (N_n (S_N S)) b))) o2 → ab_W Y_M_atOnce none l (fun r m2 h2 => ∃ (v : Int32) (S2 : SS), r = some (.int v) ∧ (SPA S w v ∧ S2 = S) ∧ PM V (c + 1) h2 S2 ∧ m2 = m ∧ ∀ k, (k < 56 ∨ 88 < k) → h2 k = h k) 111 [some (.ref 56), some (.int w), some (.int o1), some (.int o2), some (.int (nI (t))), some (.int (nI (mls (fr (S_N S)) (N_n (S_N S)) (prm (N_n (S_N S)) t)))), some (.int (nI (u))), none] [] m (ab_set (HL h (oM (N_n (S_N S)) (N_ns (S_N S)) (N_ra (S_N S)) (N_se (S_N S)) (N_me (S_N S)) (N_mi (S_N S)) (nI (TT (N_n (S_N S)))) (nI ve) la (S_tl S) at_ wr (N_fe (S_N S)) (S_K S).isSome) g1 g2 g3) 75 (.inl (6, g5))) (0, 0) := by
                    intro ku
                    induction ku with
                    | zero =>
                      intro u g5 o2 hu9 c2
                      have hu9n : TT (N_n (S_N S)) = u := by omega
                      subst hu9n
                      refine aw_iload d_M_atOnce_111 rfl ?_
                      refine aw_aload_n d_M_atOnce_113 rfl ?_
                      refine aw_get (k := 17) d_M_atOnce_114 cl_Model k_M_220 (by decide) rfl rfl ?_
                      refine aw_icmp_ge (tgt := 185) d_M_atOnce_117 (by decide) (fun c117 => ?_) (fun c117 => ?_)
                      · refine aw_iinc (v := nI ((t) + 1)) (L' := [some (.ref 56), some (.int w), some (.int o1), some (.int o2), some (.int (nI ((t) + 1))), some (.int (nI (mls (fr (S_N S)) (N_n (S_N S)) (prm (N_n (S_N S)) t)))), some (.int (nI (TT (N_n (S_N S))))), none]) d_M_atOnce_185 rfl (nI_1 _) ⟨by decide, rfl⟩ rfl ?_
                        refine aw_goto (tgt := 43) d_M_atOnce_188 (by decide) ?_
                        exact aw_drop 5 (aw_drop 6 (iht (t + 1) g1 g5 o1 o2 (by omega) c1n (c2.iff (fun v => ⟨fun z => by
                          obtain ⟨a, ha, z1, z⟩ := z
                          by_cases e : a = t
                          · subst e; exact Or.inr ⟨z1, z⟩
                          · exact Or.inl ⟨a, by omega, z1, z⟩, fun z => by
                          rcases z with ⟨a, ha, z⟩ | z
                          · exact ⟨a, by omega, z⟩
                          · exact ⟨t, by omega, z⟩⟩))))
                      · exact absurd (Int32.le_refl _) c117
                    | succ ku ihu =>
                      intro u g5 o2 hu9 c2
                      refine aw_iload d_M_atOnce_111 rfl ?_
                      refine aw_aload_n d_M_atOnce_113 rfl ?_
                      refine aw_get (k := 17) d_M_atOnce_114 cl_Model k_M_220 (by decide) rfl rfl ?_
                      refine aw_icmp_ge (tgt := 185) d_M_atOnce_117 (by decide) (fun c117 => ?_) (fun c117 => ?_)
                      · exact absurd c117 (nI_ge (by omega) (by omega))
                      · have hu := Tb.pr_ hn6 (show u < TT (N_n (S_N S)) by omega)
                        have mu := mls_le ok.1 hu.1
                        refine aw_aload_n d_M_atOnce_120 rfl ?_
                        refine aw_iload d_M_atOnce_121 rfl ?_
                        refine aw_v0i (a := 56) d_M_atOnce_123 k_M_257 ok_M_isPairs rfl ⟨rfl, rfl⟩ cl_Model rfl (c_isPairs (h := ab_set (HL h (oM (N_n (S_N S)) (N_ns (S_N S)) (N_ra (S_N S)) (N_se (S_N S)) (N_me (S_N S)) (N_mi (S_N S)) (nI (TT (N_n (S_N S)))) (nI ve) la (S_tl S) at_ wr (N_fe (S_N S)) (S_K S).isSome) g1 g2 g3) 75 (.inl (6, g5))) (N := S_N S) rfl ⟨n0, n1, n2, n3, n4, n5, n6, n7, n8, n9⟩ ok.1 (g2 := g2) rfl hly (show u < TT (N_n (S_N S)) by omega)) rfl rfl (Nat.le_of_ble_eq_true rfl) ?_
                        refine aw_if_eq (tgt := 179) d_M_atOnce_126 (by decide) (fun c126 => ?_) (fun c126 => ?_)
                        · refine aw_iinc (v := nI ((u) + 1)) (L' := [some (.ref 56), some (.int w), some (.int o1), some (.int o2), some (.int (nI (t))), some (.int (nI (mls (fr (S_N S)) (N_n (S_N S)) (prm (N_n (S_N S)) t)))), some (.int (nI ((u) + 1))), none]) d_M_atOnce_179 rfl (nI_1 _) ⟨by decide, rfl⟩ rfl ?_
                          refine aw_goto (tgt := 111) d_M_atOnce_182 (by decide) ?_
                          first
                            | (have nv : ¬ VM (N_n (S_N S)) (N_w (S_N S)) (prm (N_n (S_N S)) u) := fun z => by rw [(prs_VM ok.1 hu).mpr z] at c126; exact absurd c126 (by decide)
                               refine aw_drop 7 (ihu (u + 1) g5 o2 (by omega) (c2.iff (fun v => ⟨fun z => ?_, fun z => ?_⟩)))
                               · rcases z with z | ⟨z1, i, z2, z3⟩
                                 · exact Or.inl z
                                 · by_cases e : i = u
                                   · subst e; exact absurd z3.1 nv
                                   · exact Or.inr ⟨z1, i, by omega, z3⟩
                               · rcases z with z | ⟨z1, i, z2, z3⟩
                                 · exact Or.inl z
                                 · exact Or.inr ⟨z1, i, by omega, z3⟩)
                            | (have vu := (prs_VM ok.1 hu).mp (ab_bl_1.mp c126)
                               have nq : ¬ ow (fun k => N_t (S_N S) ((prm (N_n (S_N S)) t) ((prm (N_n (S_N S)) u) k))) (bnd (N_n (S_N S)) (N_w (S_N S)) (N_t (S_N S))) = true := fun z => by
                                 rw [ab_bl_0.mp c163] at ew
                                 rw [ew] at z; cases z
                               refine aw_drop 7 (ihu (u + 1) g5 o2 (by omega) (c2.iff (fun v => ⟨fun z => ?_, fun z => ?_⟩)))
                               · rcases z with z | ⟨z1, i, z2, z3⟩
                                 · exact Or.inl z
                                 · by_cases e : i = u
                                   · subst e; exact absurd z3.2.1 nq
                                   · exact Or.inr ⟨z1, i, by omega, z3⟩
                               · rcases z with z | ⟨z1, i, z2, z3⟩
                                 · exact Or.inl z
                                 · exact Or.inr ⟨z1, i, by omega, z3⟩)
                            | (have vu := (prs_VM ok.1 hu).mp (ab_bl_1.mp c126)
                               have q : ow (fun k => N_t (S_N S) ((prm (N_n (S_N S)) t) ((prm (N_n (S_N S)) u) k))) (bnd (N_n (S_N S)) (N_w (S_N S)) (N_t (S_N S))) = true := by rw [ew]; exact ab_bl_1.mp c163
                               rw [ev152, nI_add] at c169
                               refine aw_drop 7 (ihu (u + 1) g5 o2 (by omega) (c2.keep (by decide) (c := mls (fr (S_N S)) (N_n (S_N S)) (prm (N_n (S_N S)) t) + mls (fr (S_N S)) (N_n (S_N S)) (prm (N_n (S_N S)) u)) (by omega) (fun v => ⟨fun z => ?_, fun z => ?_⟩) (Int32.not_lt.mpr c169)))
                               · rcases z with z | ⟨z1, i, z2, z3⟩
                                 · exact Or.inl (Or.inl z)
                                 · by_cases e : i = u
                                   · subst e; exact Or.inr z3.2.2
                                   · exact Or.inl (Or.inr ⟨z1, i, by omega, z3⟩)
                               · rcases z with (z | ⟨z1, i, z2, z3⟩) | z
                                 · exact Or.inl z
                                 · exact Or.inr ⟨z1, i, by omega, z3⟩
                                 · exact Or.inr ⟨vt, u, by omega, vu, q, z⟩)
                            | (have vu := (prs_VM ok.1 hu).mp (ab_bl_1.mp c126)
                               have q : ow (fun k => N_t (S_N S) ((prm (N_n (S_N S)) t) ((prm (N_n (S_N S)) u) k))) (bnd (N_n (S_N S)) (N_w (S_N S)) (N_t (S_N S))) = true := by rw [ew]; exact ab_bl_1.mp c163
                               rw [ev152, nI_add] at c169 ⊢
                               refine aw_drop 7 (ihu (u + 1) g5 _ (by omega) (c2.add (by decide) (c := mls (fr (S_N S)) (N_n (S_N S)) (prm (N_n (S_N S)) t) + mls (fr (S_N S)) (N_n (S_N S)) (prm (N_n (S_N S)) u)) (by omega) (fun v => ⟨fun z => ?_, fun z => ?_⟩) (Int32.not_le.mp c169)))
                               · rcases z with z | ⟨z1, i, z2, z3⟩
                                 · exact Or.inl (Or.inl z)
                                 · by_cases e : i = u
                                   · subst e; exact Or.inr z3.2.2
                                   · exact Or.inl (Or.inr ⟨z1, i, by omega, z3⟩)
                               · rcases z with (z | ⟨z1, i, z2, z3⟩) | z
                                 · exact Or.inl z
                                 · exact Or.inr ⟨z1, i, by omega, z3⟩
                                 · exact Or.inr ⟨vt, u, by omega, vu, q, z⟩)
                        · refine aw_aload_n d_M_atOnce_129 rfl ?_
                          refine aw_iload d_M_atOnce_130 rfl ?_
                          refine aw_aload_n d_M_atOnce_132 rfl ?_
                          refine aw_get (k := 16) d_M_atOnce_133 cl_Model k_M_47 (by decide) rfl rfl ?_
                          refine aw_aload_n d_M_atOnce_136 rfl ?_
                          refine aw_get (k := 27) d_M_atOnce_137 cl_Model k_M_76 (by decide) rfl rfl ?_
                          refine aw_v0 (a := 56) d_M_atOnce_140 k_M_260 ok_M_changes rfl ⟨rfl, rfl⟩ cl_Model rfl (c_changes (h := ab_set (HL h (oM (N_n (S_N S)) (N_ns (S_N S)) (N_ra (S_N S)) (N_se (S_N S)) (N_me (S_N S)) (N_mi (S_N S)) (nI (TT (N_n (S_N S)))) (nI ve) la (S_tl S) at_ wr (N_fe (S_N S)) (S_K S).isSome) g1 g2 g3) 75 (.inl (6, g5))) (N := S_N S) rfl ok.1 (g2 := g2) rfl hly (show u < TT (N_n (S_N S)) by omega) (A := 67) (B := 75) (g := g1) (gb := g5) rfl rfl (by decide) (by decide) (by decide) (y := fun k => N_t (S_N S) ((prm (N_n (S_N S)) t) k)) eg1) rfl rfl (Nat.le_of_ble_eq_true rfl) (fun r m2 h2 z => ?_)
                          obtain ⟨rfl, em, g5, rfl, eg5⟩ := z
                          rw [em, ab_set_set]
                          show ab_W _ _ _ _ 143 _ [] _ _ _
                          refine aw_iload d_M_atOnce_143 rfl ?_
                          refine aw_aload_n d_M_atOnce_145 rfl ?_
                          refine aw_iload d_M_atOnce_146 rfl ?_
                          refine aw_v0i (a := 56) d_M_atOnce_148 k_M_264 ok_M_pairMiles rfl ⟨rfl, rfl⟩ cl_Model rfl (c_pairMiles (h := ab_set (HL h (oM (N_n (S_N S)) (N_ns (S_N S)) (N_ra (S_N S)) (N_se (S_N S)) (N_me (S_N S)) (N_mi (S_N S)) (nI (TT (N_n (S_N S)))) (nI ve) la (S_tl S) at_ wr (N_fe (S_N S)) (S_K S).isSome) g1 g2 g3) 75 (.inl (6, g5))) (N := S_N S) rfl ⟨n0, n1, n2, n3, n4, n5, n6, n7, n8, n9⟩ ok.1 (g2 := g2) rfl hly (show u < TT (N_n (S_N S)) by omega)) rfl rfl (Nat.le_of_ble_eq_true rfl) ?_
                          refine aw_iadd d_M_atOnce_151 ?_
                          refine aw_topi (fun v152 ev152 => ?_)
                          refine aw_istore (L' := [some (.ref 56), some (.int w), some (.int o1), some (.int o2), some (.int (nI (t))), some (.int (nI (mls (fr (S_N S)) (N_n (S_N S)) (prm (N_n (S_N S)) t)))), some (.int (nI (u))), some (.int v152)]) d_M_atOnce_152 ⟨by decide, rfl⟩ rfl ?_
                          refine aw_aload_n d_M_atOnce_154 rfl ?_
                          refine aw_aload_n d_M_atOnce_155 rfl ?_
                          refine aw_get (k := 27) d_M_atOnce_156 cl_Model k_M_76 (by decide) rfl rfl ?_
                          refine aw_iconst (v := nI 0) d_M_atOnce_159 (by decide) ?_
                          have h2t : Tb (N_n (S_N S)) (fun k => N_t (S_N S) ((prm (N_n (S_N S)) t) ((prm (N_n (S_N S)) u) k))) := ⟨h1t.1.comp hu.1, fun k hk => by show N_t (S_N S) ((prm (N_n (S_N S)) t) ((prm (N_n (S_N S)) u) k)) = k; rw [hu.2 k hk, ht9.2 k hk, hTb.2 k hk]⟩
                          refine aw_v0i (a := 56) d_M_atOnce_160 k_M_216 ok_M_isWell rfl ⟨rfl, rfl⟩ cl_Model rfl (c_isWell (h := ab_set (HL h (oM (N_n (S_N S)) (N_ns (S_N S)) (N_ra (S_N S)) (N_se (S_N S)) (N_me (S_N S)) (N_mi (S_N S)) (nI (TT (N_n (S_N S)))) (nI ve) la (S_tl S) at_ wr (N_fe (S_N S)) (S_K S).isSome) g1 g2 g3) 75 (.inl (6, g5))) (n := N_n (S_N S)) rfl hn6 (w := N_w (S_N S)) (gw := gw) hw6 aw6 (A := 75) (NN := 6) (fr := 0) (g := g5) rfl (by decide) (by omega) h2t.1 h2t.2 (fun k hk => by rw [Nat.zero_add]; exact eg5 k hk)) rfl rfl (Nat.le_of_ble_eq_true rfl) ?_
                          have ew : ow (fun k => N_t (S_N S) ((prm (N_n (S_N S)) t) ((prm (N_n (S_N S)) u) k))) (bnd (N_n (S_N S)) (N_w (S_N S)) (N_t (S_N S))) = wlp (N_n (S_N S)) (N_w (S_N S)) (fun k => N_t (S_N S) ((prm (N_n (S_N S)) t) ((prm (N_n (S_N S)) u) k))) (N_n (S_N S)) := by
                            rw [wlp_ow hn6 h2t.1 h2t.2, bnd_mv hn6 (w := N_w (S_N S)) (t := fun k => N_t (S_N S) ((prm (N_n (S_N S)) t) k)) h1t hu (fun p hp z => ((prs_VM ok.1 hu).mp (ab_bl_1.mp c126)).2.2 p hp z), bnd_mv hn6 hTb ht9 vt.2.2]
                          refine aw_if_eq (tgt := 177) d_M_atOnce_163 (by decide) (fun c163 => ?_) (fun c163 => ?_)
                          · refine aw_iload_n d_M_atOnce_177 rfl ?_
                            refine aw_istore_n (L' := [some (.ref 56), some (.int w), some (.int o1), some (.int o2), some (.int (nI (t))), some (.int (nI (mls (fr (S_N S)) (N_n (S_N S)) (prm (N_n (S_N S)) t)))), some (.int (nI (u))), some (.int v152)]) d_M_atOnce_178 ⟨by decide, rfl⟩ rfl ?_
                            refine aw_iinc (v := nI ((u) + 1)) (L' := [some (.ref 56), some (.int w), some (.int o1), some (.int o2), some (.int (nI (t))), some (.int (nI (mls (fr (S_N S)) (N_n (S_N S)) (prm (N_n (S_N S)) t)))), some (.int (nI ((u) + 1))), some (.int v152)]) d_M_atOnce_179 rfl (nI_1 _) ⟨by decide, rfl⟩ rfl ?_
                            refine aw_goto (tgt := 111) d_M_atOnce_182 (by decide) ?_
                            first
                              | (have nv : ¬ VM (N_n (S_N S)) (N_w (S_N S)) (prm (N_n (S_N S)) u) := fun z => by rw [(prs_VM ok.1 hu).mpr z] at c126; exact absurd c126 (by decide)
                                 refine aw_drop 7 (ihu (u + 1) g5 o2 (by omega) (c2.iff (fun v => ⟨fun z => ?_, fun z => ?_⟩)))
                                 · rcases z with z | ⟨z1, i, z2, z3⟩
                                   · exact Or.inl z
                                   · by_cases e : i = u
                                     · subst e; exact absurd z3.1 nv
                                     · exact Or.inr ⟨z1, i, by omega, z3⟩
                                 · rcases z with z | ⟨z1, i, z2, z3⟩
                                   · exact Or.inl z
                                   · exact Or.inr ⟨z1, i, by omega, z3⟩)
                              | (have vu := (prs_VM ok.1 hu).mp (ab_bl_1.mp c126)
                                 have nq : ¬ ow (fun k => N_t (S_N S) ((prm (N_n (S_N S)) t) ((prm (N_n (S_N S)) u) k))) (bnd (N_n (S_N S)) (N_w (S_N S)) (N_t (S_N S))) = true := fun z => by
                                   rw [ab_bl_0.mp c163] at ew
                                   rw [ew] at z; cases z
                                 refine aw_drop 7 (ihu (u + 1) g5 o2 (by omega) (c2.iff (fun v => ⟨fun z => ?_, fun z => ?_⟩)))
                                 · rcases z with z | ⟨z1, i, z2, z3⟩
                                   · exact Or.inl z
                                   · by_cases e : i = u
                                     · subst e; exact absurd z3.2.1 nq
                                     · exact Or.inr ⟨z1, i, by omega, z3⟩
                                 · rcases z with z | ⟨z1, i, z2, z3⟩
                                   · exact Or.inl z
                                   · exact Or.inr ⟨z1, i, by omega, z3⟩)
                              | (have vu := (prs_VM ok.1 hu).mp (ab_bl_1.mp c126)
                                 have q : ow (fun k => N_t (S_N S) ((prm (N_n (S_N S)) t) ((prm (N_n (S_N S)) u) k))) (bnd (N_n (S_N S)) (N_w (S_N S)) (N_t (S_N S))) = true := by rw [ew]; exact ab_bl_1.mp c163
                                 rw [ev152, nI_add] at c169
                                 refine aw_drop 7 (ihu (u + 1) g5 o2 (by omega) (c2.keep (by decide) (c := mls (fr (S_N S)) (N_n (S_N S)) (prm (N_n (S_N S)) t) + mls (fr (S_N S)) (N_n (S_N S)) (prm (N_n (S_N S)) u)) (by omega) (fun v => ⟨fun z => ?_, fun z => ?_⟩) (Int32.not_lt.mpr c169)))
                                 · rcases z with z | ⟨z1, i, z2, z3⟩
                                   · exact Or.inl (Or.inl z)
                                   · by_cases e : i = u
                                     · subst e; exact Or.inr z3.2.2
                                     · exact Or.inl (Or.inr ⟨z1, i, by omega, z3⟩)
                                 · rcases z with (z | ⟨z1, i, z2, z3⟩) | z
                                   · exact Or.inl z
                                   · exact Or.inr ⟨z1, i, by omega, z3⟩
                                   · exact Or.inr ⟨vt, u, by omega, vu, q, z⟩)
                              | (have vu := (prs_VM ok.1 hu).mp (ab_bl_1.mp c126)
                                 have q : ow (fun k => N_t (S_N S) ((prm (N_n (S_N S)) t) ((prm (N_n (S_N S)) u) k))) (bnd (N_n (S_N S)) (N_w (S_N S)) (N_t (S_N S))) = true := by rw [ew]; exact ab_bl_1.mp c163
                                 rw [ev152, nI_add] at c169 ⊢
                                 refine aw_drop 7 (ihu (u + 1) g5 _ (by omega) (c2.add (by decide) (c := mls (fr (S_N S)) (N_n (S_N S)) (prm (N_n (S_N S)) t) + mls (fr (S_N S)) (N_n (S_N S)) (prm (N_n (S_N S)) u)) (by omega) (fun v => ⟨fun z => ?_, fun z => ?_⟩) (Int32.not_le.mp c169)))
                                 · rcases z with z | ⟨z1, i, z2, z3⟩
                                   · exact Or.inl (Or.inl z)
                                   · by_cases e : i = u
                                     · subst e; exact Or.inr z3.2.2
                                     · exact Or.inl (Or.inr ⟨z1, i, by omega, z3⟩)
                                 · rcases z with (z | ⟨z1, i, z2, z3⟩) | z
                                   · exact Or.inl z
                                   · exact Or.inr ⟨z1, i, by omega, z3⟩
                                   · exact Or.inr ⟨vt, u, by omega, vu, q, z⟩)
                          · refine aw_iload d_M_atOnce_166 rfl ?_
                            refine aw_iload_n d_M_atOnce_168 rfl ?_
                            refine aw_icmp_ge (tgt := 177) d_M_atOnce_169 (by decide) (fun c169 => ?_) (fun c169 => ?_)
                            · refine aw_iload_n d_M_atOnce_177 rfl ?_
                              refine aw_istore_n (L' := [some (.ref 56), some (.int w), some (.int o1), some (.int o2), some (.int (nI (t))), some (.int (nI (mls (fr (S_N S)) (N_n (S_N S)) (prm (N_n (S_N S)) t)))), some (.int (nI (u))), some (.int v152)]) d_M_atOnce_178 ⟨by decide, rfl⟩ rfl ?_
                              refine aw_iinc (v := nI ((u) + 1)) (L' := [some (.ref 56), some (.int w), some (.int o1), some (.int o2), some (.int (nI (t))), some (.int (nI (mls (fr (S_N S)) (N_n (S_N S)) (prm (N_n (S_N S)) t)))), some (.int (nI ((u) + 1))), some (.int v152)]) d_M_atOnce_179 rfl (nI_1 _) ⟨by decide, rfl⟩ rfl ?_
                              refine aw_goto (tgt := 111) d_M_atOnce_182 (by decide) ?_
                              first
                                | (have nv : ¬ VM (N_n (S_N S)) (N_w (S_N S)) (prm (N_n (S_N S)) u) := fun z => by rw [(prs_VM ok.1 hu).mpr z] at c126; exact absurd c126 (by decide)
                                   refine aw_drop 7 (ihu (u + 1) g5 o2 (by omega) (c2.iff (fun v => ⟨fun z => ?_, fun z => ?_⟩)))
                                   · rcases z with z | ⟨z1, i, z2, z3⟩
                                     · exact Or.inl z
                                     · by_cases e : i = u
                                       · subst e; exact absurd z3.1 nv
                                       · exact Or.inr ⟨z1, i, by omega, z3⟩
                                   · rcases z with z | ⟨z1, i, z2, z3⟩
                                     · exact Or.inl z
                                     · exact Or.inr ⟨z1, i, by omega, z3⟩)
                                | (have vu := (prs_VM ok.1 hu).mp (ab_bl_1.mp c126)
                                   have nq : ¬ ow (fun k => N_t (S_N S) ((prm (N_n (S_N S)) t) ((prm (N_n (S_N S)) u) k))) (bnd (N_n (S_N S)) (N_w (S_N S)) (N_t (S_N S))) = true := fun z => by
                                     rw [ab_bl_0.mp c163] at ew
                                     rw [ew] at z; cases z
                                   refine aw_drop 7 (ihu (u + 1) g5 o2 (by omega) (c2.iff (fun v => ⟨fun z => ?_, fun z => ?_⟩)))
                                   · rcases z with z | ⟨z1, i, z2, z3⟩
                                     · exact Or.inl z
                                     · by_cases e : i = u
                                       · subst e; exact absurd z3.2.1 nq
                                       · exact Or.inr ⟨z1, i, by omega, z3⟩
                                   · rcases z with z | ⟨z1, i, z2, z3⟩
                                     · exact Or.inl z
                                     · exact Or.inr ⟨z1, i, by omega, z3⟩)
                                | (have vu := (prs_VM ok.1 hu).mp (ab_bl_1.mp c126)
                                   have q : ow (fun k => N_t (S_N S) ((prm (N_n (S_N S)) t) ((prm (N_n (S_N S)) u) k))) (bnd (N_n (S_N S)) (N_w (S_N S)) (N_t (S_N S))) = true := by rw [ew]; exact ab_bl_1.mp c163
                                   rw [ev152, nI_add] at c169
                                   refine aw_drop 7 (ihu (u + 1) g5 o2 (by omega) (c2.keep (by decide) (c := mls (fr (S_N S)) (N_n (S_N S)) (prm (N_n (S_N S)) t) + mls (fr (S_N S)) (N_n (S_N S)) (prm (N_n (S_N S)) u)) (by omega) (fun v => ⟨fun z => ?_, fun z => ?_⟩) (Int32.not_lt.mpr c169)))
                                   · rcases z with z | ⟨z1, i, z2, z3⟩
                                     · exact Or.inl (Or.inl z)
                                     · by_cases e : i = u
                                       · subst e; exact Or.inr z3.2.2
                                       · exact Or.inl (Or.inr ⟨z1, i, by omega, z3⟩)
                                   · rcases z with (z | ⟨z1, i, z2, z3⟩) | z
                                     · exact Or.inl z
                                     · exact Or.inr ⟨z1, i, by omega, z3⟩
                                     · exact Or.inr ⟨vt, u, by omega, vu, q, z⟩)
                                | (have vu := (prs_VM ok.1 hu).mp (ab_bl_1.mp c126)
                                   have q : ow (fun k => N_t (S_N S) ((prm (N_n (S_N S)) t) ((prm (N_n (S_N S)) u) k))) (bnd (N_n (S_N S)) (N_w (S_N S)) (N_t (S_N S))) = true := by rw [ew]; exact ab_bl_1.mp c163
                                   rw [ev152, nI_add] at c169 ⊢
                                   refine aw_drop 7 (ihu (u + 1) g5 _ (by omega) (c2.add (by decide) (c := mls (fr (S_N S)) (N_n (S_N S)) (prm (N_n (S_N S)) t) + mls (fr (S_N S)) (N_n (S_N S)) (prm (N_n (S_N S)) u)) (by omega) (fun v => ⟨fun z => ?_, fun z => ?_⟩) (Int32.not_le.mp c169)))
                                   · rcases z with z | ⟨z1, i, z2, z3⟩
                                     · exact Or.inl (Or.inl z)
                                     · by_cases e : i = u
                                       · subst e; exact Or.inr z3.2.2
                                       · exact Or.inl (Or.inr ⟨z1, i, by omega, z3⟩)
                                   · rcases z with (z | ⟨z1, i, z2, z3⟩) | z
                                     · exact Or.inl z
                                     · exact Or.inr ⟨z1, i, by omega, z3⟩
                                     · exact Or.inr ⟨vt, u, by omega, vu, q, z⟩)
                            · refine aw_iload d_M_atOnce_172 rfl ?_
                              refine aw_goto (tgt := 178) d_M_atOnce_174 (by decide) ?_
                              refine aw_istore_n (L' := [some (.ref 56), some (.int w), some (.int o1), some (.int v152), some (.int (nI (t))), some (.int (nI (mls (fr (S_N S)) (N_n (S_N S)) (prm (N_n (S_N S)) t)))), some (.int (nI (u))), some (.int v152)]) d_M_atOnce_178 ⟨by decide, rfl⟩ rfl ?_
                              refine aw_iinc (v := nI ((u) + 1)) (L' := [some (.ref 56), some (.int w), some (.int o1), some (.int v152), some (.int (nI (t))), some (.int (nI (mls (fr (S_N S)) (N_n (S_N S)) (prm (N_n (S_N S)) t)))), some (.int (nI ((u) + 1))), some (.int v152)]) d_M_atOnce_179 rfl (nI_1 _) ⟨by decide, rfl⟩ rfl ?_
                              refine aw_goto (tgt := 111) d_M_atOnce_182 (by decide) ?_
                              first
                                | (have nv : ¬ VM (N_n (S_N S)) (N_w (S_N S)) (prm (N_n (S_N S)) u) := fun z => by rw [(prs_VM ok.1 hu).mpr z] at c126; exact absurd c126 (by decide)
                                   refine aw_drop 7 (ihu (u + 1) g5 o2 (by omega) (c2.iff (fun v => ⟨fun z => ?_, fun z => ?_⟩)))
                                   · rcases z with z | ⟨z1, i, z2, z3⟩
                                     · exact Or.inl z
                                     · by_cases e : i = u
                                       · subst e; exact absurd z3.1 nv
                                       · exact Or.inr ⟨z1, i, by omega, z3⟩
                                   · rcases z with z | ⟨z1, i, z2, z3⟩
                                     · exact Or.inl z
                                     · exact Or.inr ⟨z1, i, by omega, z3⟩)
                                | (have vu := (prs_VM ok.1 hu).mp (ab_bl_1.mp c126)
                                   have nq : ¬ ow (fun k => N_t (S_N S) ((prm (N_n (S_N S)) t) ((prm (N_n (S_N S)) u) k))) (bnd (N_n (S_N S)) (N_w (S_N S)) (N_t (S_N S))) = true := fun z => by
                                     rw [ab_bl_0.mp c163] at ew
                                     rw [ew] at z; cases z
                                   refine aw_drop 7 (ihu (u + 1) g5 o2 (by omega) (c2.iff (fun v => ⟨fun z => ?_, fun z => ?_⟩)))
                                   · rcases z with z | ⟨z1, i, z2, z3⟩
                                     · exact Or.inl z
                                     · by_cases e : i = u
                                       · subst e; exact absurd z3.2.1 nq
                                       · exact Or.inr ⟨z1, i, by omega, z3⟩
                                   · rcases z with z | ⟨z1, i, z2, z3⟩
                                     · exact Or.inl z
                                     · exact Or.inr ⟨z1, i, by omega, z3⟩)
                                | (have vu := (prs_VM ok.1 hu).mp (ab_bl_1.mp c126)
                                   have q : ow (fun k => N_t (S_N S) ((prm (N_n (S_N S)) t) ((prm (N_n (S_N S)) u) k))) (bnd (N_n (S_N S)) (N_w (S_N S)) (N_t (S_N S))) = true := by rw [ew]; exact ab_bl_1.mp c163
                                   rw [ev152, nI_add] at c169
                                   refine aw_drop 7 (ihu (u + 1) g5 o2 (by omega) (c2.keep (by decide) (c := mls (fr (S_N S)) (N_n (S_N S)) (prm (N_n (S_N S)) t) + mls (fr (S_N S)) (N_n (S_N S)) (prm (N_n (S_N S)) u)) (by omega) (fun v => ⟨fun z => ?_, fun z => ?_⟩) (Int32.not_lt.mpr c169)))
                                   · rcases z with z | ⟨z1, i, z2, z3⟩
                                     · exact Or.inl (Or.inl z)
                                     · by_cases e : i = u
                                       · subst e; exact Or.inr z3.2.2
                                       · exact Or.inl (Or.inr ⟨z1, i, by omega, z3⟩)
                                   · rcases z with (z | ⟨z1, i, z2, z3⟩) | z
                                     · exact Or.inl z
                                     · exact Or.inr ⟨z1, i, by omega, z3⟩
                                     · exact Or.inr ⟨vt, u, by omega, vu, q, z⟩)
                                | (have vu := (prs_VM ok.1 hu).mp (ab_bl_1.mp c126)
                                   have q : ow (fun k => N_t (S_N S) ((prm (N_n (S_N S)) t) ((prm (N_n (S_N S)) u) k))) (bnd (N_n (S_N S)) (N_w (S_N S)) (N_t (S_N S))) = true := by rw [ew]; exact ab_bl_1.mp c163
                                   rw [ev152, nI_add] at c169 ⊢
                                   refine aw_drop 7 (ihu (u + 1) g5 _ (by omega) (c2.add (by decide) (c := mls (fr (S_N S)) (N_n (S_N S)) (prm (N_n (S_N S)) t) + mls (fr (S_N S)) (N_n (S_N S)) (prm (N_n (S_N S)) u)) (by omega) (fun v => ⟨fun z => ?_, fun z => ?_⟩) (Int32.not_le.mp c169)))
                                   · rcases z with z | ⟨z1, i, z2, z3⟩
                                     · exact Or.inl (Or.inl z)
                                     · by_cases e : i = u
                                       · subst e; exact Or.inr z3.2.2
                                       · exact Or.inl (Or.inr ⟨z1, i, by omega, z3⟩)
                                   · rcases z with (z | ⟨z1, i, z2, z3⟩) | z
                                     · exact Or.inl z
                                     · exact Or.inr ⟨z1, i, by omega, z3⟩
                                     · exact Or.inr ⟨vt, u, by omega, vu, q, z⟩)
                  exact loopu (TT (N_n (S_N S))) 0 g5 o2 (by omega) (c2.iff (fun v => ⟨fun z => z.elim id (fun y => by obtain ⟨_, b, hb, _⟩ := y; exact absurd hb (Nat.not_lt_zero _)), Or.inl⟩))
                have ew : ow (fun k => N_t (S_N S) ((prm (N_n (S_N S)) t) k)) (bnd (N_n (S_N S)) (N_w (S_N S)) (N_t (S_N S))) = wlp (N_n (S_N S)) (N_w (S_N S)) (fun k => N_t (S_N S) ((prm (N_n (S_N S)) t) k)) (N_n (S_N S)) := by
                  rw [wlp_ow hn6 h1t.1 h1t.2, bnd_mv hn6 hTb ht9 vt.2.2]
                first
                  | (have nq : ¬ ow (fun k => N_t (S_N S) ((prm (N_n (S_N S)) t) k)) (bnd (N_n (S_N S)) (N_w (S_N S)) (N_t (S_N S))) = true := fun z => by
                       rw [ab_bl_0.mp c92] at ew
                       rw [ew] at z; cases z
                     refine c108 o1 (c1.iff (fun v => ⟨fun ⟨a, ha, z⟩ => ?_, fun ⟨a, ha, z⟩ => ⟨a, by omega, z⟩⟩))
                     by_cases e : a = t
                     · subst e; exact absurd z.2.1 nq
                     · exact ⟨a, by omega, z⟩)
                  | (have q : ow (fun k => N_t (S_N S) ((prm (N_n (S_N S)) t) k)) (bnd (N_n (S_N S)) (N_w (S_N S)) (N_t (S_N S))) = true := by rw [ew]; exact ab_bl_1.mp c92
                     refine c108 o1 (c1.keep (by decide) (c := mls (fr (S_N S)) (N_n (S_N S)) (prm (N_n (S_N S)) t)) (by omega) (fun v => ⟨fun ⟨a, ha, z⟩ => ?_, fun z => ?_⟩) (Int32.not_lt.mpr c98))
                     · by_cases e : a = t
                       · subst e; exact Or.inr z.2.2
                       · exact Or.inl ⟨a, by omega, z⟩
                     · rcases z with ⟨a, ha, z⟩ | z
                       · exact ⟨a, by omega, z⟩
                       · exact ⟨t, by omega, vt, q, z⟩)
                  | (have q : ow (fun k => N_t (S_N S) ((prm (N_n (S_N S)) t) k)) (bnd (N_n (S_N S)) (N_w (S_N S)) (N_t (S_N S))) = true := by rw [ew]; exact ab_bl_1.mp c92
                     refine c108 _ (c1.add (by decide) (c := mls (fr (S_N S)) (N_n (S_N S)) (prm (N_n (S_N S)) t)) (by omega) (fun v => ⟨fun ⟨a, ha, z⟩ => ?_, fun z => ?_⟩) (Int32.not_le.mp c98))
                     · by_cases e : a = t
                       · subst e; exact Or.inr z.2.2
                       · exact Or.inl ⟨a, by omega, z⟩
                     · rcases z with ⟨a, ha, z⟩ | z
                       · exact ⟨a, by omega, z⟩
                       · exact ⟨t, by omega, vt, q, z⟩)
              · refine aw_iload d_M_atOnce_95 rfl ?_
                refine aw_iload_n d_M_atOnce_97 rfl ?_
                refine aw_icmp_ge (tgt := 106) d_M_atOnce_98 (by decide) (fun c98 => ?_) (fun c98 => ?_)
                · refine aw_iload_n d_M_atOnce_106 rfl ?_
                  refine aw_istore_n (L' := [some (.ref 56), some (.int w), some (.int o1), some (.int o2), some (.int (nI (t))), some (.int (nI (mls (fr (S_N S)) (N_n (S_N S)) (prm (N_n (S_N S)) t)))), none, none]) d_M_atOnce_107 ⟨by decide, rfl⟩ rfl ?_
                  have c108 : ∀ (o1 : Int32), cur 1000000000 (fun v => ∃ a, a < (t + 1) ∧ VM (N_n (S_N S)) (N_w (S_N S)) (prm (N_n (S_N S)) a) ∧ ow (fun k => N_t (S_N S) ((prm (N_n (S_N S)) a) k)) (bnd (N_n (S_N S)) (N_w (S_N S)) (N_t (S_N S))) = true ∧ v = mls (fr (S_N S)) (N_n (S_N S)) (prm (N_n (S_N S)) a)) o1 → ab_W Y_M_atOnce none l (fun r m2 h2 => ∃ (v : Int32) (S2 : SS), r = some (.int v) ∧ (SPA S w v ∧ S2 = S) ∧ PM V (c + 1) h2 S2 ∧ m2 = m ∧ ∀ k, (k < 56 ∨ 88 < k) → h2 k = h k) 108 [some (.ref 56), some (.int w), some (.int o1), some (.int o2), some (.int (nI (t))), some (.int (nI (mls (fr (S_N S)) (N_n (S_N S)) (prm (N_n (S_N S)) t)))), none, none] [] m (ab_set (HL h (oM (N_n (S_N S)) (N_ns (S_N S)) (N_ra (S_N S)) (N_se (S_N S)) (N_me (S_N S)) (N_mi (S_N S)) (nI (TT (N_n (S_N S)))) (nI ve) la (S_tl S) at_ wr (N_fe (S_N S)) (S_K S).isSome) g1 g2 g3) 75 (.inl (6, g5))) (0, 0) := by
                    intro o1 c1n
                    refine aw_iconst (v := nI 0) d_M_atOnce_108 (by decide) ?_
                    refine aw_istore (L' := [some (.ref 56), some (.int w), some (.int o1), some (.int o2), some (.int (nI (t))), some (.int (nI (mls (fr (S_N S)) (N_n (S_N S)) (prm (N_n (S_N S)) t)))), some (.int (nI 0)), none]) d_M_atOnce_109 ⟨by decide, rfl⟩ rfl ?_
                    have loopu : ∀ ku u (g5 : Nat → Int32) (o2 : Int32), u + ku = TT (N_n (S_N S)) → cur 1000000000 (fun v => (∃ a, a < t ∧ VM (N_n (S_N S)) (N_w (S_N S)) (prm (N_n (S_N S)) a) ∧ ∃ b, b < TT (N_n (S_N S)) ∧ VM (N_n (S_N S)) (N_w (S_N S)) (prm (N_n (S_N S)) b) ∧ ow (fun k => N_t (S_N S) ((prm (N_n (S_N S)) a) ((prm (N_n (S_N S)) b) k))) (bnd (N_n (S_N S)) (N_w (S_N S)) (N_t (S_N S))) = true ∧ v = mls (fr (S_N S)) (N_n (S_N S)) (prm (N_n (S_N S)) a) + mls (fr (S_N S)) (N_n (S_N S)) (prm (N_n (S_N S)) b)) ∨ (VM (N_n (S_N S)) (N_w (S_N S)) (prm (N_n (S_N S)) t) ∧ ∃ b, b < u ∧ VM (N_n (S_N S)) (N_w (S_N S)) (prm (N_n (S_N S)) b) ∧ ow (fun k => N_t (S_N S) ((prm (N_n (S_N S)) t) ((prm (N_n (S_N S)) b) k))) (bnd (N_n (S_N S)) (N_w (S_N S)) (N_t (S_N S))) = true ∧ v = mls (fr (S_N S)) (N_n (S_N S)) (prm (N_n (S_N S)) t) + mls (fr (S_N S)) (N_n (S_N S)) (prm (N_n (S_N S)) b))) o2 → ab_W Y_M_atOnce none l (fun r m2 h2 => ∃ (v : Int32) (S2 : SS), r = some (.int v) ∧ (SPA S w v ∧ S2 = S) ∧ PM V (c + 1) h2 S2 ∧ m2 = m ∧ ∀ k, (k < 56 ∨ 88 < k) → h2 k = h k) 111 [some (.ref 56), some (.int w), some (.int o1), some (.int o2), some (.int (nI (t))), some (.int (nI (mls (fr (S_N S)) (N_n (S_N S)) (prm (N_n (S_N S)) t)))), some (.int (nI (u))), none] [] m (ab_set (HL h (oM (N_n (S_N S)) (N_ns (S_N S)) (N_ra (S_N S)) (N_se (S_N S)) (N_me (S_N S)) (N_mi (S_N S)) (nI (TT (N_n (S_N S)))) (nI ve) la (S_tl S) at_ wr (N_fe (S_N S)) (S_K S).isSome) g1 g2 g3) 75 (.inl (6, g5))) (0, 0) := by
                      intro ku
                      induction ku with
                      | zero =>
                        intro u g5 o2 hu9 c2
                        have hu9n : TT (N_n (S_N S)) = u := by omega
                        subst hu9n
                        refine aw_iload d_M_atOnce_111 rfl ?_
                        refine aw_aload_n d_M_atOnce_113 rfl ?_
                        refine aw_get (k := 17) d_M_atOnce_114 cl_Model k_M_220 (by decide) rfl rfl ?_
                        refine aw_icmp_ge (tgt := 185) d_M_atOnce_117 (by decide) (fun c117 => ?_) (fun c117 => ?_)
                        · refine aw_iinc (v := nI ((t) + 1)) (L' := [some (.ref 56), some (.int w), some (.int o1), some (.int o2), some (.int (nI ((t) + 1))), some (.int (nI (mls (fr (S_N S)) (N_n (S_N S)) (prm (N_n (S_N S)) t)))), some (.int (nI (TT (N_n (S_N S))))), none]) d_M_atOnce_185 rfl (nI_1 _) ⟨by decide, rfl⟩ rfl ?_
                          refine aw_goto (tgt := 43) d_M_atOnce_188 (by decide) ?_
                          exact aw_drop 5 (aw_drop 6 (iht (t + 1) g1 g5 o1 o2 (by omega) c1n (c2.iff (fun v => ⟨fun z => by
                            obtain ⟨a, ha, z1, z⟩ := z
                            by_cases e : a = t
                            · subst e; exact Or.inr ⟨z1, z⟩
                            · exact Or.inl ⟨a, by omega, z1, z⟩, fun z => by
                            rcases z with ⟨a, ha, z⟩ | z
                            · exact ⟨a, by omega, z⟩
                            · exact ⟨t, by omega, z⟩⟩))))
                        · exact absurd (Int32.le_refl _) c117
                      | succ ku ihu =>
                        intro u g5 o2 hu9 c2
                        refine aw_iload d_M_atOnce_111 rfl ?_
                        refine aw_aload_n d_M_atOnce_113 rfl ?_
                        refine aw_get (k := 17) d_M_atOnce_114 cl_Model k_M_220 (by decide) rfl rfl ?_
                        refine aw_icmp_ge (tgt := 185) d_M_atOnce_117 (by decide) (fun c117 => ?_) (fun c117 => ?_)
                        · exact absurd c117 (nI_ge (by omega) (by omega))
                        · have hu := Tb.pr_ hn6 (show u < TT (N_n (S_N S)) by omega)
                          have mu := mls_le ok.1 hu.1
                          refine aw_aload_n d_M_atOnce_120 rfl ?_
                          refine aw_iload d_M_atOnce_121 rfl ?_
                          refine aw_v0i (a := 56) d_M_atOnce_123 k_M_257 ok_M_isPairs rfl ⟨rfl, rfl⟩ cl_Model rfl (c_isPairs (h := ab_set (HL h (oM (N_n (S_N S)) (N_ns (S_N S)) (N_ra (S_N S)) (N_se (S_N S)) (N_me (S_N S)) (N_mi (S_N S)) (nI (TT (N_n (S_N S)))) (nI ve) la (S_tl S) at_ wr (N_fe (S_N S)) (S_K S).isSome) g1 g2 g3) 75 (.inl (6, g5))) (N := S_N S) rfl ⟨n0, n1, n2, n3, n4, n5, n6, n7, n8, n9⟩ ok.1 (g2 := g2) rfl hly (show u < TT (N_n (S_N S)) by omega)) rfl rfl (Nat.le_of_ble_eq_true rfl) ?_
                          refine aw_if_eq (tgt := 179) d_M_atOnce_126 (by decide) (fun c126 => ?_) (fun c126 => ?_)
                          · refine aw_iinc (v := nI ((u) + 1)) (L' := [some (.ref 56), some (.int w), some (.int o1), some (.int o2), some (.int (nI (t))), some (.int (nI (mls (fr (S_N S)) (N_n (S_N S)) (prm (N_n (S_N S)) t)))), some (.int (nI ((u) + 1))), none]) d_M_atOnce_179 rfl (nI_1 _) ⟨by decide, rfl⟩ rfl ?_
                            refine aw_goto (tgt := 111) d_M_atOnce_182 (by decide) ?_
                            first
                              | (have nv : ¬ VM (N_n (S_N S)) (N_w (S_N S)) (prm (N_n (S_N S)) u) := fun z => by rw [(prs_VM ok.1 hu).mpr z] at c126; exact absurd c126 (by decide)
                                 refine aw_drop 7 (ihu (u + 1) g5 o2 (by omega) (c2.iff (fun v => ⟨fun z => ?_, fun z => ?_⟩)))
                                 · rcases z with z | ⟨z1, i, z2, z3⟩
                                   · exact Or.inl z
                                   · by_cases e : i = u
                                     · subst e; exact absurd z3.1 nv
                                     · exact Or.inr ⟨z1, i, by omega, z3⟩
                                 · rcases z with z | ⟨z1, i, z2, z3⟩
                                   · exact Or.inl z
                                   · exact Or.inr ⟨z1, i, by omega, z3⟩)
                              | (have vu := (prs_VM ok.1 hu).mp (ab_bl_1.mp c126)
                                 have nq : ¬ ow (fun k => N_t (S_N S) ((prm (N_n (S_N S)) t) ((prm (N_n (S_N S)) u) k))) (bnd (N_n (S_N S)) (N_w (S_N S)) (N_t (S_N S))) = true := fun z => by
                                   rw [ab_bl_0.mp c163] at ew
                                   rw [ew] at z; cases z
                                 refine aw_drop 7 (ihu (u + 1) g5 o2 (by omega) (c2.iff (fun v => ⟨fun z => ?_, fun z => ?_⟩)))
                                 · rcases z with z | ⟨z1, i, z2, z3⟩
                                   · exact Or.inl z
                                   · by_cases e : i = u
                                     · subst e; exact absurd z3.2.1 nq
                                     · exact Or.inr ⟨z1, i, by omega, z3⟩
                                 · rcases z with z | ⟨z1, i, z2, z3⟩
                                   · exact Or.inl z
                                   · exact Or.inr ⟨z1, i, by omega, z3⟩)
                              | (have vu := (prs_VM ok.1 hu).mp (ab_bl_1.mp c126)
                                 have q : ow (fun k => N_t (S_N S) ((prm (N_n (S_N S)) t) ((prm (N_n (S_N S)) u) k))) (bnd (N_n (S_N S)) (N_w (S_N S)) (N_t (S_N S))) = true := by rw [ew]; exact ab_bl_1.mp c163
                                 rw [ev152, nI_add] at c169
                                 refine aw_drop 7 (ihu (u + 1) g5 o2 (by omega) (c2.keep (by decide) (c := mls (fr (S_N S)) (N_n (S_N S)) (prm (N_n (S_N S)) t) + mls (fr (S_N S)) (N_n (S_N S)) (prm (N_n (S_N S)) u)) (by omega) (fun v => ⟨fun z => ?_, fun z => ?_⟩) (Int32.not_lt.mpr c169)))
                                 · rcases z with z | ⟨z1, i, z2, z3⟩
                                   · exact Or.inl (Or.inl z)
                                   · by_cases e : i = u
                                     · subst e; exact Or.inr z3.2.2
                                     · exact Or.inl (Or.inr ⟨z1, i, by omega, z3⟩)
                                 · rcases z with (z | ⟨z1, i, z2, z3⟩) | z
                                   · exact Or.inl z
                                   · exact Or.inr ⟨z1, i, by omega, z3⟩
                                   · exact Or.inr ⟨vt, u, by omega, vu, q, z⟩)
                              | (have vu := (prs_VM ok.1 hu).mp (ab_bl_1.mp c126)
                                 have q : ow (fun k => N_t (S_N S) ((prm (N_n (S_N S)) t) ((prm (N_n (S_N S)) u) k))) (bnd (N_n (S_N S)) (N_w (S_N S)) (N_t (S_N S))) = true := by rw [ew]; exact ab_bl_1.mp c163
                                 rw [ev152, nI_add] at c169 ⊢
                                 refine aw_drop 7 (ihu (u + 1) g5 _ (by omega) (c2.add (by decide) (c := mls (fr (S_N S)) (N_n (S_N S)) (prm (N_n (S_N S)) t) + mls (fr (S_N S)) (N_n (S_N S)) (prm (N_n (S_N S)) u)) (by omega) (fun v => ⟨fun z => ?_, fun z => ?_⟩) (Int32.not_le.mp c169)))
                                 · rcases z with z | ⟨z1, i, z2, z3⟩
                                   · exact Or.inl (Or.inl z)
                                   · by_cases e : i = u
                                     · subst e; exact Or.inr z3.2.2
                                     · exact Or.inl (Or.inr ⟨z1, i, by omega, z3⟩)
                                 · rcases z with (z | ⟨z1, i, z2, z3⟩) | z
                                   · exact Or.inl z
                                   · exact Or.inr ⟨z1, i, by omega, z3⟩
                                   · exact Or.inr ⟨vt, u, by omega, vu, q, z⟩)
                          · refine aw_aload_n d_M_atOnce_129 rfl ?_
                            refine aw_iload d_M_atOnce_130 rfl ?_
                            refine aw_aload_n d_M_atOnce_132 rfl ?_
                            refine aw_get (k := 16) d_M_atOnce_133 cl_Model k_M_47 (by decide) rfl rfl ?_
                            refine aw_aload_n d_M_atOnce_136 rfl ?_
                            refine aw_get (k := 27) d_M_atOnce_137 cl_Model k_M_76 (by decide) rfl rfl ?_
                            refine aw_v0 (a := 56) d_M_atOnce_140 k_M_260 ok_M_changes rfl ⟨rfl, rfl⟩ cl_Model rfl (c_changes (h := ab_set (HL h (oM (N_n (S_N S)) (N_ns (S_N S)) (N_ra (S_N S)) (N_se (S_N S)) (N_me (S_N S)) (N_mi (S_N S)) (nI (TT (N_n (S_N S)))) (nI ve) la (S_tl S) at_ wr (N_fe (S_N S)) (S_K S).isSome) g1 g2 g3) 75 (.inl (6, g5))) (N := S_N S) rfl ok.1 (g2 := g2) rfl hly (show u < TT (N_n (S_N S)) by omega) (A := 67) (B := 75) (g := g1) (gb := g5) rfl rfl (by decide) (by decide) (by decide) (y := fun k => N_t (S_N S) ((prm (N_n (S_N S)) t) k)) eg1) rfl rfl (Nat.le_of_ble_eq_true rfl) (fun r m2 h2 z => ?_)
                            obtain ⟨rfl, em, g5, rfl, eg5⟩ := z
                            rw [em, ab_set_set]
                            show ab_W _ _ _ _ 143 _ [] _ _ _
                            refine aw_iload d_M_atOnce_143 rfl ?_
                            refine aw_aload_n d_M_atOnce_145 rfl ?_
                            refine aw_iload d_M_atOnce_146 rfl ?_
                            refine aw_v0i (a := 56) d_M_atOnce_148 k_M_264 ok_M_pairMiles rfl ⟨rfl, rfl⟩ cl_Model rfl (c_pairMiles (h := ab_set (HL h (oM (N_n (S_N S)) (N_ns (S_N S)) (N_ra (S_N S)) (N_se (S_N S)) (N_me (S_N S)) (N_mi (S_N S)) (nI (TT (N_n (S_N S)))) (nI ve) la (S_tl S) at_ wr (N_fe (S_N S)) (S_K S).isSome) g1 g2 g3) 75 (.inl (6, g5))) (N := S_N S) rfl ⟨n0, n1, n2, n3, n4, n5, n6, n7, n8, n9⟩ ok.1 (g2 := g2) rfl hly (show u < TT (N_n (S_N S)) by omega)) rfl rfl (Nat.le_of_ble_eq_true rfl) ?_
                            refine aw_iadd d_M_atOnce_151 ?_
                            refine aw_topi (fun v152 ev152 => ?_)
                            refine aw_istore (L' := [some (.ref 56), some (.int w), some (.int o1), some (.int o2), some (.int (nI (t))), some (.int (nI (mls (fr (S_N S)) (N_n (S_N S)) (prm (N_n (S_N S)) t)))), some (.int (nI (u))), some (.int v152)]) d_M_atOnce_152 ⟨by decide, rfl⟩ rfl ?_
                            refine aw_aload_n d_M_atOnce_154 rfl ?_
                            refine aw_aload_n d_M_atOnce_155 rfl ?_
                            refine aw_get (k := 27) d_M_atOnce_156 cl_Model k_M_76 (by decide) rfl rfl ?_
                            refine aw_iconst (v := nI 0) d_M_atOnce_159 (by decide) ?_
                            have h2t : Tb (N_n (S_N S)) (fun k => N_t (S_N S) ((prm (N_n (S_N S)) t) ((prm (N_n (S_N S)) u) k))) := ⟨h1t.1.comp hu.1, fun k hk => by show N_t (S_N S) ((prm (N_n (S_N S)) t) ((prm (N_n (S_N S)) u) k)) = k; rw [hu.2 k hk, ht9.2 k hk, hTb.2 k hk]⟩
                            refine aw_v0i (a := 56) d_M_atOnce_160 k_M_216 ok_M_isWell rfl ⟨rfl, rfl⟩ cl_Model rfl (c_isWell (h := ab_set (HL h (oM (N_n (S_N S)) (N_ns (S_N S)) (N_ra (S_N S)) (N_se (S_N S)) (N_me (S_N S)) (N_mi (S_N S)) (nI (TT (N_n (S_N S)))) (nI ve) la (S_tl S) at_ wr (N_fe (S_N S)) (S_K S).isSome) g1 g2 g3) 75 (.inl (6, g5))) (n := N_n (S_N S)) rfl hn6 (w := N_w (S_N S)) (gw := gw) hw6 aw6 (A := 75) (NN := 6) (fr := 0) (g := g5) rfl (by decide) (by omega) h2t.1 h2t.2 (fun k hk => by rw [Nat.zero_add]; exact eg5 k hk)) rfl rfl (Nat.le_of_ble_eq_true rfl) ?_
                            have ew : ow (fun k => N_t (S_N S) ((prm (N_n (S_N S)) t) ((prm (N_n (S_N S)) u) k))) (bnd (N_n (S_N S)) (N_w (S_N S)) (N_t (S_N S))) = wlp (N_n (S_N S)) (N_w (S_N S)) (fun k => N_t (S_N S) ((prm (N_n (S_N S)) t) ((prm (N_n (S_N S)) u) k))) (N_n (S_N S)) := by
                              rw [wlp_ow hn6 h2t.1 h2t.2, bnd_mv hn6 (w := N_w (S_N S)) (t := fun k => N_t (S_N S) ((prm (N_n (S_N S)) t) k)) h1t hu (fun p hp z => ((prs_VM ok.1 hu).mp (ab_bl_1.mp c126)).2.2 p hp z), bnd_mv hn6 hTb ht9 vt.2.2]
                            refine aw_if_eq (tgt := 177) d_M_atOnce_163 (by decide) (fun c163 => ?_) (fun c163 => ?_)
                            · refine aw_iload_n d_M_atOnce_177 rfl ?_
                              refine aw_istore_n (L' := [some (.ref 56), some (.int w), some (.int o1), some (.int o2), some (.int (nI (t))), some (.int (nI (mls (fr (S_N S)) (N_n (S_N S)) (prm (N_n (S_N S)) t)))), some (.int (nI (u))), some (.int v152)]) d_M_atOnce_178 ⟨by decide, rfl⟩ rfl ?_
                              refine aw_iinc (v := nI ((u) + 1)) (L' := [some (.ref 56), some (.int w), some (.int o1), some (.int o2), some (.int (nI (t))), some (.int (nI (mls (fr (S_N S)) (N_n (S_N S)) (prm (N_n (S_N S)) t)))), some (.int (nI ((u) + 1))), some (.int v152)]) d_M_atOnce_179 rfl (nI_1 _) ⟨by decide, rfl⟩ rfl ?_
                              refine aw_goto (tgt := 111) d_M_atOnce_182 (by decide) ?_
                              first
                                | (have nv : ¬ VM (N_n (S_N S)) (N_w (S_N S)) (prm (N_n (S_N S)) u) := fun z => by rw [(prs_VM ok.1 hu).mpr z] at c126; exact absurd c126 (by decide)
                                   refine aw_drop 7 (ihu (u + 1) g5 o2 (by omega) (c2.iff (fun v => ⟨fun z => ?_, fun z => ?_⟩)))
                                   · rcases z with z | ⟨z1, i, z2, z3⟩
                                     · exact Or.inl z
                                     · by_cases e : i = u
                                       · subst e; exact absurd z3.1 nv
                                       · exact Or.inr ⟨z1, i, by omega, z3⟩
                                   · rcases z with z | ⟨z1, i, z2, z3⟩
                                     · exact Or.inl z
                                     · exact Or.inr ⟨z1, i, by omega, z3⟩)
                                | (have vu := (prs_VM ok.1 hu).mp (ab_bl_1.mp c126)
                                   have nq : ¬ ow (fun k => N_t (S_N S) ((prm (N_n (S_N S)) t) ((prm (N_n (S_N S)) u) k))) (bnd (N_n (S_N S)) (N_w (S_N S)) (N_t (S_N S))) = true := fun z => by
                                     rw [ab_bl_0.mp c163] at ew
                                     rw [ew] at z; cases z
                                   refine aw_drop 7 (ihu (u + 1) g5 o2 (by omega) (c2.iff (fun v => ⟨fun z => ?_, fun z => ?_⟩)))
                                   · rcases z with z | ⟨z1, i, z2, z3⟩
                                     · exact Or.inl z
                                     · by_cases e : i = u
                                       · subst e; exact absurd z3.2.1 nq
                                       · exact Or.inr ⟨z1, i, by omega, z3⟩
                                   · rcases z with z | ⟨z1, i, z2, z3⟩
                                     · exact Or.inl z
                                     · exact Or.inr ⟨z1, i, by omega, z3⟩)
                                | (have vu := (prs_VM ok.1 hu).mp (ab_bl_1.mp c126)
                                   have q : ow (fun k => N_t (S_N S) ((prm (N_n (S_N S)) t) ((prm (N_n (S_N S)) u) k))) (bnd (N_n (S_N S)) (N_w (S_N S)) (N_t (S_N S))) = true := by rw [ew]; exact ab_bl_1.mp c163
                                   rw [ev152, nI_add] at c169
                                   refine aw_drop 7 (ihu (u + 1) g5 o2 (by omega) (c2.keep (by decide) (c := mls (fr (S_N S)) (N_n (S_N S)) (prm (N_n (S_N S)) t) + mls (fr (S_N S)) (N_n (S_N S)) (prm (N_n (S_N S)) u)) (by omega) (fun v => ⟨fun z => ?_, fun z => ?_⟩) (Int32.not_lt.mpr c169)))
                                   · rcases z with z | ⟨z1, i, z2, z3⟩
                                     · exact Or.inl (Or.inl z)
                                     · by_cases e : i = u
                                       · subst e; exact Or.inr z3.2.2
                                       · exact Or.inl (Or.inr ⟨z1, i, by omega, z3⟩)
                                   · rcases z with (z | ⟨z1, i, z2, z3⟩) | z
                                     · exact Or.inl z
                                     · exact Or.inr ⟨z1, i, by omega, z3⟩
                                     · exact Or.inr ⟨vt, u, by omega, vu, q, z⟩)
                                | (have vu := (prs_VM ok.1 hu).mp (ab_bl_1.mp c126)
                                   have q : ow (fun k => N_t (S_N S) ((prm (N_n (S_N S)) t) ((prm (N_n (S_N S)) u) k))) (bnd (N_n (S_N S)) (N_w (S_N S)) (N_t (S_N S))) = true := by rw [ew]; exact ab_bl_1.mp c163
                                   rw [ev152, nI_add] at c169 ⊢
                                   refine aw_drop 7 (ihu (u + 1) g5 _ (by omega) (c2.add (by decide) (c := mls (fr (S_N S)) (N_n (S_N S)) (prm (N_n (S_N S)) t) + mls (fr (S_N S)) (N_n (S_N S)) (prm (N_n (S_N S)) u)) (by omega) (fun v => ⟨fun z => ?_, fun z => ?_⟩) (Int32.not_le.mp c169)))
                                   · rcases z with z | ⟨z1, i, z2, z3⟩
                                     · exact Or.inl (Or.inl z)
                                     · by_cases e : i = u
                                       · subst e; exact Or.inr z3.2.2
                                       · exact Or.inl (Or.inr ⟨z1, i, by omega, z3⟩)
                                   · rcases z with (z | ⟨z1, i, z2, z3⟩) | z
                                     · exact Or.inl z
                                     · exact Or.inr ⟨z1, i, by omega, z3⟩
                                     · exact Or.inr ⟨vt, u, by omega, vu, q, z⟩)
                            · refine aw_iload d_M_atOnce_166 rfl ?_
                              refine aw_iload_n d_M_atOnce_168 rfl ?_
                              refine aw_icmp_ge (tgt := 177) d_M_atOnce_169 (by decide) (fun c169 => ?_) (fun c169 => ?_)
                              · refine aw_iload_n d_M_atOnce_177 rfl ?_
                                refine aw_istore_n (L' := [some (.ref 56), some (.int w), some (.int o1), some (.int o2), some (.int (nI (t))), some (.int (nI (mls (fr (S_N S)) (N_n (S_N S)) (prm (N_n (S_N S)) t)))), some (.int (nI (u))), some (.int v152)]) d_M_atOnce_178 ⟨by decide, rfl⟩ rfl ?_
                                refine aw_iinc (v := nI ((u) + 1)) (L' := [some (.ref 56), some (.int w), some (.int o1), some (.int o2), some (.int (nI (t))), some (.int (nI (mls (fr (S_N S)) (N_n (S_N S)) (prm (N_n (S_N S)) t)))), some (.int (nI ((u) + 1))), some (.int v152)]) d_M_atOnce_179 rfl (nI_1 _) ⟨by decide, rfl⟩ rfl ?_
                                refine aw_goto (tgt := 111) d_M_atOnce_182 (by decide) ?_
                                first
                                  | (have nv : ¬ VM (N_n (S_N S)) (N_w (S_N S)) (prm (N_n (S_N S)) u) := fun z => by rw [(prs_VM ok.1 hu).mpr z] at c126; exact absurd c126 (by decide)
                                     refine aw_drop 7 (ihu (u + 1) g5 o2 (by omega) (c2.iff (fun v => ⟨fun z => ?_, fun z => ?_⟩)))
                                     · rcases z with z | ⟨z1, i, z2, z3⟩
                                       · exact Or.inl z
                                       · by_cases e : i = u
                                         · subst e; exact absurd z3.1 nv
                                         · exact Or.inr ⟨z1, i, by omega, z3⟩
                                     · rcases z with z | ⟨z1, i, z2, z3⟩
                                       · exact Or.inl z
                                       · exact Or.inr ⟨z1, i, by omega, z3⟩)
                                  | (have vu := (prs_VM ok.1 hu).mp (ab_bl_1.mp c126)
                                     have nq : ¬ ow (fun k => N_t (S_N S) ((prm (N_n (S_N S)) t) ((prm (N_n (S_N S)) u) k))) (bnd (N_n (S_N S)) (N_w (S_N S)) (N_t (S_N S))) = true := fun z => by
                                       rw [ab_bl_0.mp c163] at ew
                                       rw [ew] at z; cases z
                                     refine aw_drop 7 (ihu (u + 1) g5 o2 (by omega) (c2.iff (fun v => ⟨fun z => ?_, fun z => ?_⟩)))
                                     · rcases z with z | ⟨z1, i, z2, z3⟩
                                       · exact Or.inl z
                                       · by_cases e : i = u
                                         · subst e; exact absurd z3.2.1 nq
                                         · exact Or.inr ⟨z1, i, by omega, z3⟩
                                     · rcases z with z | ⟨z1, i, z2, z3⟩
                                       · exact Or.inl z
                                       · exact Or.inr ⟨z1, i, by omega, z3⟩)
                                  | (have vu := (prs_VM ok.1 hu).mp (ab_bl_1.mp c126)
                                     have q : ow (fun k => N_t (S_N S) ((prm (N_n (S_N S)) t) ((prm (N_n (S_N S)) u) k))) (bnd (N_n (S_N S)) (N_w (S_N S)) (N_t (S_N S))) = true := by rw [ew]; exact ab_bl_1.mp c163
                                     rw [ev152, nI_add] at c169
                                     refine aw_drop 7 (ihu (u + 1) g5 o2 (by omega) (c2.keep (by decide) (c := mls (fr (S_N S)) (N_n (S_N S)) (prm (N_n (S_N S)) t) + mls (fr (S_N S)) (N_n (S_N S)) (prm (N_n (S_N S)) u)) (by omega) (fun v => ⟨fun z => ?_, fun z => ?_⟩) (Int32.not_lt.mpr c169)))
                                     · rcases z with z | ⟨z1, i, z2, z3⟩
                                       · exact Or.inl (Or.inl z)
                                       · by_cases e : i = u
                                         · subst e; exact Or.inr z3.2.2
                                         · exact Or.inl (Or.inr ⟨z1, i, by omega, z3⟩)
                                     · rcases z with (z | ⟨z1, i, z2, z3⟩) | z
                                       · exact Or.inl z
                                       · exact Or.inr ⟨z1, i, by omega, z3⟩
                                       · exact Or.inr ⟨vt, u, by omega, vu, q, z⟩)
                                  | (have vu := (prs_VM ok.1 hu).mp (ab_bl_1.mp c126)
                                     have q : ow (fun k => N_t (S_N S) ((prm (N_n (S_N S)) t) ((prm (N_n (S_N S)) u) k))) (bnd (N_n (S_N S)) (N_w (S_N S)) (N_t (S_N S))) = true := by rw [ew]; exact ab_bl_1.mp c163
                                     rw [ev152, nI_add] at c169 ⊢
                                     refine aw_drop 7 (ihu (u + 1) g5 _ (by omega) (c2.add (by decide) (c := mls (fr (S_N S)) (N_n (S_N S)) (prm (N_n (S_N S)) t) + mls (fr (S_N S)) (N_n (S_N S)) (prm (N_n (S_N S)) u)) (by omega) (fun v => ⟨fun z => ?_, fun z => ?_⟩) (Int32.not_le.mp c169)))
                                     · rcases z with z | ⟨z1, i, z2, z3⟩
                                       · exact Or.inl (Or.inl z)
                                       · by_cases e : i = u
                                         · subst e; exact Or.inr z3.2.2
                                         · exact Or.inl (Or.inr ⟨z1, i, by omega, z3⟩)
                                     · rcases z with (z | ⟨z1, i, z2, z3⟩) | z
                                       · exact Or.inl z
                                       · exact Or.inr ⟨z1, i, by omega, z3⟩
                                       · exact Or.inr ⟨vt, u, by omega, vu, q, z⟩)
                              · refine aw_iload d_M_atOnce_172 rfl ?_
                                refine aw_goto (tgt := 178) d_M_atOnce_174 (by decide) ?_
                                refine aw_istore_n (L' := [some (.ref 56), some (.int w), some (.int o1), some (.int v152), some (.int (nI (t))), some (.int (nI (mls (fr (S_N S)) (N_n (S_N S)) (prm (N_n (S_N S)) t)))), some (.int (nI (u))), some (.int v152)]) d_M_atOnce_178 ⟨by decide, rfl⟩ rfl ?_
                                refine aw_iinc (v := nI ((u) + 1)) (L' := [some (.ref 56), some (.int w), some (.int o1), some (.int v152), some (.int (nI (t))), some (.int (nI (mls (fr (S_N S)) (N_n (S_N S)) (prm (N_n (S_N S)) t)))), some (.int (nI ((u) + 1))), some (.int v152)]) d_M_atOnce_179 rfl (nI_1 _) ⟨by decide, rfl⟩ rfl ?_
                                refine aw_goto (tgt := 111) d_M_atOnce_182 (by decide) ?_
                                first
                                  | (have nv : ¬ VM (N_n (S_N S)) (N_w (S_N S)) (prm (N_n (S_N S)) u) := fun z => by rw [(prs_VM ok.1 hu).mpr z] at c126; exact absurd c126 (by decide)
                                     refine aw_drop 7 (ihu (u + 1) g5 o2 (by omega) (c2.iff (fun v => ⟨fun z => ?_, fun z => ?_⟩)))
                                     · rcases z with z | ⟨z1, i, z2, z3⟩
                                       · exact Or.inl z
                                       · by_cases e : i = u
                                         · subst e; exact absurd z3.1 nv
                                         · exact Or.inr ⟨z1, i, by omega, z3⟩
                                     · rcases z with z | ⟨z1, i, z2, z3⟩
                                       · exact Or.inl z
                                       · exact Or.inr ⟨z1, i, by omega, z3⟩)
                                  | (have vu := (prs_VM ok.1 hu).mp (ab_bl_1.mp c126)
                                     have nq : ¬ ow (fun k => N_t (S_N S) ((prm (N_n (S_N S)) t) ((prm (N_n (S_N S)) u) k))) (bnd (N_n (S_N S)) (N_w (S_N S)) (N_t (S_N S))) = true := fun z => by
                                       rw [ab_bl_0.mp c163] at ew
                                       rw [ew] at z; cases z
                                     refine aw_drop 7 (ihu (u + 1) g5 o2 (by omega) (c2.iff (fun v => ⟨fun z => ?_, fun z => ?_⟩)))
                                     · rcases z with z | ⟨z1, i, z2, z3⟩
                                       · exact Or.inl z
                                       · by_cases e : i = u
                                         · subst e; exact absurd z3.2.1 nq
                                         · exact Or.inr ⟨z1, i, by omega, z3⟩
                                     · rcases z with z | ⟨z1, i, z2, z3⟩
                                       · exact Or.inl z
                                       · exact Or.inr ⟨z1, i, by omega, z3⟩)
                                  | (have vu := (prs_VM ok.1 hu).mp (ab_bl_1.mp c126)
                                     have q : ow (fun k => N_t (S_N S) ((prm (N_n (S_N S)) t) ((prm (N_n (S_N S)) u) k))) (bnd (N_n (S_N S)) (N_w (S_N S)) (N_t (S_N S))) = true := by rw [ew]; exact ab_bl_1.mp c163
                                     rw [ev152, nI_add] at c169
                                     refine aw_drop 7 (ihu (u + 1) g5 o2 (by omega) (c2.keep (by decide) (c := mls (fr (S_N S)) (N_n (S_N S)) (prm (N_n (S_N S)) t) + mls (fr (S_N S)) (N_n (S_N S)) (prm (N_n (S_N S)) u)) (by omega) (fun v => ⟨fun z => ?_, fun z => ?_⟩) (Int32.not_lt.mpr c169)))
                                     · rcases z with z | ⟨z1, i, z2, z3⟩
                                       · exact Or.inl (Or.inl z)
                                       · by_cases e : i = u
                                         · subst e; exact Or.inr z3.2.2
                                         · exact Or.inl (Or.inr ⟨z1, i, by omega, z3⟩)
                                     · rcases z with (z | ⟨z1, i, z2, z3⟩) | z
                                       · exact Or.inl z
                                       · exact Or.inr ⟨z1, i, by omega, z3⟩
                                       · exact Or.inr ⟨vt, u, by omega, vu, q, z⟩)
                                  | (have vu := (prs_VM ok.1 hu).mp (ab_bl_1.mp c126)
                                     have q : ow (fun k => N_t (S_N S) ((prm (N_n (S_N S)) t) ((prm (N_n (S_N S)) u) k))) (bnd (N_n (S_N S)) (N_w (S_N S)) (N_t (S_N S))) = true := by rw [ew]; exact ab_bl_1.mp c163
                                     rw [ev152, nI_add] at c169 ⊢
                                     refine aw_drop 7 (ihu (u + 1) g5 _ (by omega) (c2.add (by decide) (c := mls (fr (S_N S)) (N_n (S_N S)) (prm (N_n (S_N S)) t) + mls (fr (S_N S)) (N_n (S_N S)) (prm (N_n (S_N S)) u)) (by omega) (fun v => ⟨fun z => ?_, fun z => ?_⟩) (Int32.not_le.mp c169)))
                                     · rcases z with z | ⟨z1, i, z2, z3⟩
                                       · exact Or.inl (Or.inl z)
                                       · by_cases e : i = u
                                         · subst e; exact Or.inr z3.2.2
                                         · exact Or.inl (Or.inr ⟨z1, i, by omega, z3⟩)
                                     · rcases z with (z | ⟨z1, i, z2, z3⟩) | z
                                       · exact Or.inl z
                                       · exact Or.inr ⟨z1, i, by omega, z3⟩
                                       · exact Or.inr ⟨vt, u, by omega, vu, q, z⟩)
                    exact loopu (TT (N_n (S_N S))) 0 g5 o2 (by omega) (c2.iff (fun v => ⟨fun z => z.elim id (fun y => by obtain ⟨_, b, hb, _⟩ := y; exact absurd hb (Nat.not_lt_zero _)), Or.inl⟩))
                  have ew : ow (fun k => N_t (S_N S) ((prm (N_n (S_N S)) t) k)) (bnd (N_n (S_N S)) (N_w (S_N S)) (N_t (S_N S))) = wlp (N_n (S_N S)) (N_w (S_N S)) (fun k => N_t (S_N S) ((prm (N_n (S_N S)) t) k)) (N_n (S_N S)) := by
                    rw [wlp_ow hn6 h1t.1 h1t.2, bnd_mv hn6 hTb ht9 vt.2.2]
                  first
                    | (have nq : ¬ ow (fun k => N_t (S_N S) ((prm (N_n (S_N S)) t) k)) (bnd (N_n (S_N S)) (N_w (S_N S)) (N_t (S_N S))) = true := fun z => by
                         rw [ab_bl_0.mp c92] at ew
                         rw [ew] at z; cases z
                       refine c108 o1 (c1.iff (fun v => ⟨fun ⟨a, ha, z⟩ => ?_, fun ⟨a, ha, z⟩ => ⟨a, by omega, z⟩⟩))
                       by_cases e : a = t
                       · subst e; exact absurd z.2.1 nq
                       · exact ⟨a, by omega, z⟩)
                    | (have q : ow (fun k => N_t (S_N S) ((prm (N_n (S_N S)) t) k)) (bnd (N_n (S_N S)) (N_w (S_N S)) (N_t (S_N S))) = true := by rw [ew]; exact ab_bl_1.mp c92
                       refine c108 o1 (c1.keep (by decide) (c := mls (fr (S_N S)) (N_n (S_N S)) (prm (N_n (S_N S)) t)) (by omega) (fun v => ⟨fun ⟨a, ha, z⟩ => ?_, fun z => ?_⟩) (Int32.not_lt.mpr c98))
                       · by_cases e : a = t
                         · subst e; exact Or.inr z.2.2
                         · exact Or.inl ⟨a, by omega, z⟩
                       · rcases z with ⟨a, ha, z⟩ | z
                         · exact ⟨a, by omega, z⟩
                         · exact ⟨t, by omega, vt, q, z⟩)
                    | (have q : ow (fun k => N_t (S_N S) ((prm (N_n (S_N S)) t) k)) (bnd (N_n (S_N S)) (N_w (S_N S)) (N_t (S_N S))) = true := by rw [ew]; exact ab_bl_1.mp c92
                       refine c108 _ (c1.add (by decide) (c := mls (fr (S_N S)) (N_n (S_N S)) (prm (N_n (S_N S)) t)) (by omega) (fun v => ⟨fun ⟨a, ha, z⟩ => ?_, fun z => ?_⟩) (Int32.not_le.mp c98))
                       · by_cases e : a = t
                         · subst e; exact Or.inr z.2.2
                         · exact Or.inl ⟨a, by omega, z⟩
                       · rcases z with ⟨a, ha, z⟩ | z
                         · exact ⟨a, by omega, z⟩
                         · exact ⟨t, by omega, vt, q, z⟩)
                · refine aw_iload d_M_atOnce_101 rfl ?_
                  refine aw_goto (tgt := 107) d_M_atOnce_103 (by decide) ?_
                  refine aw_istore_n (L' := [some (.ref 56), some (.int w), some (.int (nI (mls (fr (S_N S)) (N_n (S_N S)) (prm (N_n (S_N S)) t)))), some (.int o2), some (.int (nI (t))), some (.int (nI (mls (fr (S_N S)) (N_n (S_N S)) (prm (N_n (S_N S)) t)))), none, none]) d_M_atOnce_107 ⟨by decide, rfl⟩ rfl ?_
                  have c108 : ∀ (o1 : Int32), cur 1000000000 (fun v => ∃ a, a < (t + 1) ∧ VM (N_n (S_N S)) (N_w (S_N S)) (prm (N_n (S_N S)) a) ∧ ow (fun k => N_t (S_N S) ((prm (N_n (S_N S)) a) k)) (bnd (N_n (S_N S)) (N_w (S_N S)) (N_t (S_N S))) = true ∧ v = mls (fr (S_N S)) (N_n (S_N S)) (prm (N_n (S_N S)) a)) o1 → ab_W Y_M_atOnce none l (fun r m2 h2 => ∃ (v : Int32) (S2 : SS), r = some (.int v) ∧ (SPA S w v ∧ S2 = S) ∧ PM V (c + 1) h2 S2 ∧ m2 = m ∧ ∀ k, (k < 56 ∨ 88 < k) → h2 k = h k) 108 [some (.ref 56), some (.int w), some (.int o1), some (.int o2), some (.int (nI (t))), some (.int (nI (mls (fr (S_N S)) (N_n (S_N S)) (prm (N_n (S_N S)) t)))), none, none] [] m (ab_set (HL h (oM (N_n (S_N S)) (N_ns (S_N S)) (N_ra (S_N S)) (N_se (S_N S)) (N_me (S_N S)) (N_mi (S_N S)) (nI (TT (N_n (S_N S)))) (nI ve) la (S_tl S) at_ wr (N_fe (S_N S)) (S_K S).isSome) g1 g2 g3) 75 (.inl (6, g5))) (0, 0) := by
                    intro o1 c1n
                    refine aw_iconst (v := nI 0) d_M_atOnce_108 (by decide) ?_
                    refine aw_istore (L' := [some (.ref 56), some (.int w), some (.int o1), some (.int o2), some (.int (nI (t))), some (.int (nI (mls (fr (S_N S)) (N_n (S_N S)) (prm (N_n (S_N S)) t)))), some (.int (nI 0)), none]) d_M_atOnce_109 ⟨by decide, rfl⟩ rfl ?_
                    have loopu : ∀ ku u (g5 : Nat → Int32) (o2 : Int32), u + ku = TT (N_n (S_N S)) → cur 1000000000 (fun v => (∃ a, a < t ∧ VM (N_n (S_N S)) (N_w (S_N S)) (prm (N_n (S_N S)) a) ∧ ∃ b, b < TT (N_n (S_N S)) ∧ VM (N_n (S_N S)) (N_w (S_N S)) (prm (N_n (S_N S)) b) ∧ ow (fun k => N_t (S_N S) ((prm (N_n (S_N S)) a) ((prm (N_n (S_N S)) b) k))) (bnd (N_n (S_N S)) (N_w (S_N S)) (N_t (S_N S))) = true ∧ v = mls (fr (S_N S)) (N_n (S_N S)) (prm (N_n (S_N S)) a) + mls (fr (S_N S)) (N_n (S_N S)) (prm (N_n (S_N S)) b)) ∨ (VM (N_n (S_N S)) (N_w (S_N S)) (prm (N_n (S_N S)) t) ∧ ∃ b, b < u ∧ VM (N_n (S_N S)) (N_w (S_N S)) (prm (N_n (S_N S)) b) ∧ ow (fun k => N_t (S_N S) ((prm (N_n (S_N S)) t) ((prm (N_n (S_N S)) b) k))) (bnd (N_n (S_N S)) (N_w (S_N S)) (N_t (S_N S))) = true ∧ v = mls (fr (S_N S)) (N_n (S_N S)) (prm (N_n (S_N S)) t) + mls (fr (S_N S)) (N_n (S_N S)) (prm (N_n (S_N S)) b))) o2 → ab_W Y_M_atOnce none l (fun r m2 h2 => ∃ (v : Int32) (S2 : SS), r = some (.int v) ∧ (SPA S w v ∧ S2 = S) ∧ PM V (c + 1) h2 S2 ∧ m2 = m ∧ ∀ k, (k < 56 ∨ 88 < k) → h2 k = h k) 111 [some (.ref 56), some (.int w), some (.int o1), some (.int o2), some (.int (nI (t))), some (.int (nI (mls (fr (S_N S)) (N_n (S_N S)) (prm (N_n (S_N S)) t)))), some (.int (nI (u))), none] [] m (ab_set (HL h (oM (N_n (S_N S)) (N_ns (S_N S)) (N_ra (S_N S)) (N_se (S_N S)) (N_me (S_N S)) (N_mi (S_N S)) (nI (TT (N_n (S_N S)))) (nI ve) la (S_tl S) at_ wr (N_fe (S_N S)) (S_K S).isSome) g1 g2 g3) 75 (.inl (6, g5))) (0, 0) := by
                      intro ku
                      induction ku with
                      | zero =>
                        intro u g5 o2 hu9 c2
                        have hu9n : TT (N_n (S_N S)) = u := by omega
                        subst hu9n
                        refine aw_iload d_M_atOnce_111 rfl ?_
                        refine aw_aload_n d_M_atOnce_113 rfl ?_
                        refine aw_get (k := 17) d_M_atOnce_114 cl_Model k_M_220 (by decide) rfl rfl ?_
                        refine aw_icmp_ge (tgt := 185) d_M_atOnce_117 (by decide) (fun c117 => ?_) (fun c117 => ?_)
                        · refine aw_iinc (v := nI ((t) + 1)) (L' := [some (.ref 56), some (.int w), some (.int o1), some (.int o2), some (.int (nI ((t) + 1))), some (.int (nI (mls (fr (S_N S)) (N_n (S_N S)) (prm (N_n (S_N S)) t)))), some (.int (nI (TT (N_n (S_N S))))), none]) d_M_atOnce_185 rfl (nI_1 _) ⟨by decide, rfl⟩ rfl ?_
                          refine aw_goto (tgt := 43) d_M_atOnce_188 (by decide) ?_
                          exact aw_drop 5 (aw_drop 6 (iht (t + 1) g1 g5 o1 o2 (by omega) c1n (c2.iff (fun v => ⟨fun z => by
                            obtain ⟨a, ha, z1, z⟩ := z
                            by_cases e : a = t
                            · subst e; exact Or.inr ⟨z1, z⟩
                            · exact Or.inl ⟨a, by omega, z1, z⟩, fun z => by
                            rcases z with ⟨a, ha, z⟩ | z
                            · exact ⟨a, by omega, z⟩
                            · exact ⟨t, by omega, z⟩⟩))))
                        · exact absurd (Int32.le_refl _) c117
                      | succ ku ihu =>
                        intro u g5 o2 hu9 c2
                        refine aw_iload d_M_atOnce_111 rfl ?_
                        refine aw_aload_n d_M_atOnce_113 rfl ?_
                        refine aw_get (k := 17) d_M_atOnce_114 cl_Model k_M_220 (by decide) rfl rfl ?_
                        refine aw_icmp_ge (tgt := 185) d_M_atOnce_117 (by decide) (fun c117 => ?_) (fun c117 => ?_)
                        · exact absurd c117 (nI_ge (by omega) (by omega))
                        · have hu := Tb.pr_ hn6 (show u < TT (N_n (S_N S)) by omega)
                          have mu := mls_le ok.1 hu.1
                          refine aw_aload_n d_M_atOnce_120 rfl ?_
                          refine aw_iload d_M_atOnce_121 rfl ?_
                          refine aw_v0i (a := 56) d_M_atOnce_123 k_M_257 ok_M_isPairs rfl ⟨rfl, rfl⟩ cl_Model rfl (c_isPairs (h := ab_set (HL h (oM (N_n (S_N S)) (N_ns (S_N S)) (N_ra (S_N S)) (N_se (S_N S)) (N_me (S_N S)) (N_mi (S_N S)) (nI (TT (N_n (S_N S)))) (nI ve) la (S_tl S) at_ wr (N_fe (S_N S)) (S_K S).isSome) g1 g2 g3) 75 (.inl (6, g5))) (N := S_N S) rfl ⟨n0, n1, n2, n3, n4, n5, n6, n7, n8, n9⟩ ok.1 (g2 := g2) rfl hly (show u < TT (N_n (S_N S)) by omega)) rfl rfl (Nat.le_of_ble_eq_true rfl) ?_
                          refine aw_if_eq (tgt := 179) d_M_atOnce_126 (by decide) (fun c126 => ?_) (fun c126 => ?_)
                          · refine aw_iinc (v := nI ((u) + 1)) (L' := [some (.ref 56), some (.int w), some (.int o1), some (.int o2), some (.int (nI (t))), some (.int (nI (mls (fr (S_N S)) (N_n (S_N S)) (prm (N_n (S_N S)) t)))), some (.int (nI ((u) + 1))), none]) d_M_atOnce_179 rfl (nI_1 _) ⟨by decide, rfl⟩ rfl ?_
                            refine aw_goto (tgt := 111) d_M_atOnce_182 (by decide) ?_
                            first
                              | (have nv : ¬ VM (N_n (S_N S)) (N_w (S_N S)) (prm (N_n (S_N S)) u) := fun z => by rw [(prs_VM ok.1 hu).mpr z] at c126; exact absurd c126 (by decide)
                                 refine aw_drop 7 (ihu (u + 1) g5 o2 (by omega) (c2.iff (fun v => ⟨fun z => ?_, fun z => ?_⟩)))
                                 · rcases z with z | ⟨z1, i, z2, z3⟩
                                   · exact Or.inl z
                                   · by_cases e : i = u
                                     · subst e; exact absurd z3.1 nv
                                     · exact Or.inr ⟨z1, i, by omega, z3⟩
                                 · rcases z with z | ⟨z1, i, z2, z3⟩
                                   · exact Or.inl z
                                   · exact Or.inr ⟨z1, i, by omega, z3⟩)
                              | (have vu := (prs_VM ok.1 hu).mp (ab_bl_1.mp c126)
                                 have nq : ¬ ow (fun k => N_t (S_N S) ((prm (N_n (S_N S)) t) ((prm (N_n (S_N S)) u) k))) (bnd (N_n (S_N S)) (N_w (S_N S)) (N_t (S_N S))) = true := fun z => by
                                   rw [ab_bl_0.mp c163] at ew
                                   rw [ew] at z; cases z
                                 refine aw_drop 7 (ihu (u + 1) g5 o2 (by omega) (c2.iff (fun v => ⟨fun z => ?_, fun z => ?_⟩)))
                                 · rcases z with z | ⟨z1, i, z2, z3⟩
                                   · exact Or.inl z
                                   · by_cases e : i = u
                                     · subst e; exact absurd z3.2.1 nq
                                     · exact Or.inr ⟨z1, i, by omega, z3⟩
                                 · rcases z with z | ⟨z1, i, z2, z3⟩
                                   · exact Or.inl z
                                   · exact Or.inr ⟨z1, i, by omega, z3⟩)
                              | (have vu := (prs_VM ok.1 hu).mp (ab_bl_1.mp c126)
                                 have q : ow (fun k => N_t (S_N S) ((prm (N_n (S_N S)) t) ((prm (N_n (S_N S)) u) k))) (bnd (N_n (S_N S)) (N_w (S_N S)) (N_t (S_N S))) = true := by rw [ew]; exact ab_bl_1.mp c163
                                 rw [ev152, nI_add] at c169
                                 refine aw_drop 7 (ihu (u + 1) g5 o2 (by omega) (c2.keep (by decide) (c := mls (fr (S_N S)) (N_n (S_N S)) (prm (N_n (S_N S)) t) + mls (fr (S_N S)) (N_n (S_N S)) (prm (N_n (S_N S)) u)) (by omega) (fun v => ⟨fun z => ?_, fun z => ?_⟩) (Int32.not_lt.mpr c169)))
                                 · rcases z with z | ⟨z1, i, z2, z3⟩
                                   · exact Or.inl (Or.inl z)
                                   · by_cases e : i = u
                                     · subst e; exact Or.inr z3.2.2
                                     · exact Or.inl (Or.inr ⟨z1, i, by omega, z3⟩)
                                 · rcases z with (z | ⟨z1, i, z2, z3⟩) | z
                                   · exact Or.inl z
                                   · exact Or.inr ⟨z1, i, by omega, z3⟩
                                   · exact Or.inr ⟨vt, u, by omega, vu, q, z⟩)
                              | (have vu := (prs_VM ok.1 hu).mp (ab_bl_1.mp c126)
                                 have q : ow (fun k => N_t (S_N S) ((prm (N_n (S_N S)) t) ((prm (N_n (S_N S)) u) k))) (bnd (N_n (S_N S)) (N_w (S_N S)) (N_t (S_N S))) = true := by rw [ew]; exact ab_bl_1.mp c163
                                 rw [ev152, nI_add] at c169 ⊢
                                 refine aw_drop 7 (ihu (u + 1) g5 _ (by omega) (c2.add (by decide) (c := mls (fr (S_N S)) (N_n (S_N S)) (prm (N_n (S_N S)) t) + mls (fr (S_N S)) (N_n (S_N S)) (prm (N_n (S_N S)) u)) (by omega) (fun v => ⟨fun z => ?_, fun z => ?_⟩) (Int32.not_le.mp c169)))
                                 · rcases z with z | ⟨z1, i, z2, z3⟩
                                   · exact Or.inl (Or.inl z)
                                   · by_cases e : i = u
                                     · subst e; exact Or.inr z3.2.2
                                     · exact Or.inl (Or.inr ⟨z1, i, by omega, z3⟩)
                                 · rcases z with (z | ⟨z1, i, z2, z3⟩) | z
                                   · exact Or.inl z
                                   · exact Or.inr ⟨z1, i, by omega, z3⟩
                                   · exact Or.inr ⟨vt, u, by omega, vu, q, z⟩)
                          · refine aw_aload_n d_M_atOnce_129 rfl ?_
                            refine aw_iload d_M_atOnce_130 rfl ?_
                            refine aw_aload_n d_M_atOnce_132 rfl ?_
                            refine aw_get (k := 16) d_M_atOnce_133 cl_Model k_M_47 (by decide) rfl rfl ?_
                            refine aw_aload_n d_M_atOnce_136 rfl ?_
                            refine aw_get (k := 27) d_M_atOnce_137 cl_Model k_M_76 (by decide) rfl rfl ?_
                            refine aw_v0 (a := 56) d_M_atOnce_140 k_M_260 ok_M_changes rfl ⟨rfl, rfl⟩ cl_Model rfl (c_changes (h := ab_set (HL h (oM (N_n (S_N S)) (N_ns (S_N S)) (N_ra (S_N S)) (N_se (S_N S)) (N_me (S_N S)) (N_mi (S_N S)) (nI (TT (N_n (S_N S)))) (nI ve) la (S_tl S) at_ wr (N_fe (S_N S)) (S_K S).isSome) g1 g2 g3) 75 (.inl (6, g5))) (N := S_N S) rfl ok.1 (g2 := g2) rfl hly (show u < TT (N_n (S_N S)) by omega) (A := 67) (B := 75) (g := g1) (gb := g5) rfl rfl (by decide) (by decide) (by decide) (y := fun k => N_t (S_N S) ((prm (N_n (S_N S)) t) k)) eg1) rfl rfl (Nat.le_of_ble_eq_true rfl) (fun r m2 h2 z => ?_)
                            obtain ⟨rfl, em, g5, rfl, eg5⟩ := z
                            rw [em, ab_set_set]
                            show ab_W _ _ _ _ 143 _ [] _ _ _
                            refine aw_iload d_M_atOnce_143 rfl ?_
                            refine aw_aload_n d_M_atOnce_145 rfl ?_
                            refine aw_iload d_M_atOnce_146 rfl ?_
                            refine aw_v0i (a := 56) d_M_atOnce_148 k_M_264 ok_M_pairMiles rfl ⟨rfl, rfl⟩ cl_Model rfl (c_pairMiles (h := ab_set (HL h (oM (N_n (S_N S)) (N_ns (S_N S)) (N_ra (S_N S)) (N_se (S_N S)) (N_me (S_N S)) (N_mi (S_N S)) (nI (TT (N_n (S_N S)))) (nI ve) la (S_tl S) at_ wr (N_fe (S_N S)) (S_K S).isSome) g1 g2 g3) 75 (.inl (6, g5))) (N := S_N S) rfl ⟨n0, n1, n2, n3, n4, n5, n6, n7, n8, n9⟩ ok.1 (g2 := g2) rfl hly (show u < TT (N_n (S_N S)) by omega)) rfl rfl (Nat.le_of_ble_eq_true rfl) ?_
                            refine aw_iadd d_M_atOnce_151 ?_
                            refine aw_topi (fun v152 ev152 => ?_)
                            refine aw_istore (L' := [some (.ref 56), some (.int w), some (.int o1), some (.int o2), some (.int (nI (t))), some (.int (nI (mls (fr (S_N S)) (N_n (S_N S)) (prm (N_n (S_N S)) t)))), some (.int (nI (u))), some (.int v152)]) d_M_atOnce_152 ⟨by decide, rfl⟩ rfl ?_
                            refine aw_aload_n d_M_atOnce_154 rfl ?_
                            refine aw_aload_n d_M_atOnce_155 rfl ?_
                            refine aw_get (k := 27) d_M_atOnce_156 cl_Model k_M_76 (by decide) rfl rfl ?_
                            refine aw_iconst (v := nI 0) d_M_atOnce_159 (by decide) ?_
                            have h2t : Tb (N_n (S_N S)) (fun k => N_t (S_N S) ((prm (N_n (S_N S)) t) ((prm (N_n (S_N S)) u) k))) := ⟨h1t.1.comp hu.1, fun k hk => by show N_t (S_N S) ((prm (N_n (S_N S)) t) ((prm (N_n (S_N S)) u) k)) = k; rw [hu.2 k hk, ht9.2 k hk, hTb.2 k hk]⟩
                            refine aw_v0i (a := 56) d_M_atOnce_160 k_M_216 ok_M_isWell rfl ⟨rfl, rfl⟩ cl_Model rfl (c_isWell (h := ab_set (HL h (oM (N_n (S_N S)) (N_ns (S_N S)) (N_ra (S_N S)) (N_se (S_N S)) (N_me (S_N S)) (N_mi (S_N S)) (nI (TT (N_n (S_N S)))) (nI ve) la (S_tl S) at_ wr (N_fe (S_N S)) (S_K S).isSome) g1 g2 g3) 75 (.inl (6, g5))) (n := N_n (S_N S)) rfl hn6 (w := N_w (S_N S)) (gw := gw) hw6 aw6 (A := 75) (NN := 6) (fr := 0) (g := g5) rfl (by decide) (by omega) h2t.1 h2t.2 (fun k hk => by rw [Nat.zero_add]; exact eg5 k hk)) rfl rfl (Nat.le_of_ble_eq_true rfl) ?_
                            have ew : ow (fun k => N_t (S_N S) ((prm (N_n (S_N S)) t) ((prm (N_n (S_N S)) u) k))) (bnd (N_n (S_N S)) (N_w (S_N S)) (N_t (S_N S))) = wlp (N_n (S_N S)) (N_w (S_N S)) (fun k => N_t (S_N S) ((prm (N_n (S_N S)) t) ((prm (N_n (S_N S)) u) k))) (N_n (S_N S)) := by
                              rw [wlp_ow hn6 h2t.1 h2t.2, bnd_mv hn6 (w := N_w (S_N S)) (t := fun k => N_t (S_N S) ((prm (N_n (S_N S)) t) k)) h1t hu (fun p hp z => ((prs_VM ok.1 hu).mp (ab_bl_1.mp c126)).2.2 p hp z), bnd_mv hn6 hTb ht9 vt.2.2]
                            refine aw_if_eq (tgt := 177) d_M_atOnce_163 (by decide) (fun c163 => ?_) (fun c163 => ?_)
                            · refine aw_iload_n d_M_atOnce_177 rfl ?_
                              refine aw_istore_n (L' := [some (.ref 56), some (.int w), some (.int o1), some (.int o2), some (.int (nI (t))), some (.int (nI (mls (fr (S_N S)) (N_n (S_N S)) (prm (N_n (S_N S)) t)))), some (.int (nI (u))), some (.int v152)]) d_M_atOnce_178 ⟨by decide, rfl⟩ rfl ?_
                              refine aw_iinc (v := nI ((u) + 1)) (L' := [some (.ref 56), some (.int w), some (.int o1), some (.int o2), some (.int (nI (t))), some (.int (nI (mls (fr (S_N S)) (N_n (S_N S)) (prm (N_n (S_N S)) t)))), some (.int (nI ((u) + 1))), some (.int v152)]) d_M_atOnce_179 rfl (nI_1 _) ⟨by decide, rfl⟩ rfl ?_
                              refine aw_goto (tgt := 111) d_M_atOnce_182 (by decide) ?_
                              first
                                | (have nv : ¬ VM (N_n (S_N S)) (N_w (S_N S)) (prm (N_n (S_N S)) u) := fun z => by rw [(prs_VM ok.1 hu).mpr z] at c126; exact absurd c126 (by decide)
                                   refine aw_drop 7 (ihu (u + 1) g5 o2 (by omega) (c2.iff (fun v => ⟨fun z => ?_, fun z => ?_⟩)))
                                   · rcases z with z | ⟨z1, i, z2, z3⟩
                                     · exact Or.inl z
                                     · by_cases e : i = u
                                       · subst e; exact absurd z3.1 nv
                                       · exact Or.inr ⟨z1, i, by omega, z3⟩
                                   · rcases z with z | ⟨z1, i, z2, z3⟩
                                     · exact Or.inl z
                                     · exact Or.inr ⟨z1, i, by omega, z3⟩)
                                | (have vu := (prs_VM ok.1 hu).mp (ab_bl_1.mp c126)
                                   have nq : ¬ ow (fun k => N_t (S_N S) ((prm (N_n (S_N S)) t) ((prm (N_n (S_N S)) u) k))) (bnd (N_n (S_N S)) (N_w (S_N S)) (N_t (S_N S))) = true := fun z => by
                                     rw [ab_bl_0.mp c163] at ew
                                     rw [ew] at z; cases z
                                   refine aw_drop 7 (ihu (u + 1) g5 o2 (by omega) (c2.iff (fun v => ⟨fun z => ?_, fun z => ?_⟩)))
                                   · rcases z with z | ⟨z1, i, z2, z3⟩
                                     · exact Or.inl z
                                     · by_cases e : i = u
                                       · subst e; exact absurd z3.2.1 nq
                                       · exact Or.inr ⟨z1, i, by omega, z3⟩
                                   · rcases z with z | ⟨z1, i, z2, z3⟩
                                     · exact Or.inl z
                                     · exact Or.inr ⟨z1, i, by omega, z3⟩)
                                | (have vu := (prs_VM ok.1 hu).mp (ab_bl_1.mp c126)
                                   have q : ow (fun k => N_t (S_N S) ((prm (N_n (S_N S)) t) ((prm (N_n (S_N S)) u) k))) (bnd (N_n (S_N S)) (N_w (S_N S)) (N_t (S_N S))) = true := by rw [ew]; exact ab_bl_1.mp c163
                                   rw [ev152, nI_add] at c169
                                   refine aw_drop 7 (ihu (u + 1) g5 o2 (by omega) (c2.keep (by decide) (c := mls (fr (S_N S)) (N_n (S_N S)) (prm (N_n (S_N S)) t) + mls (fr (S_N S)) (N_n (S_N S)) (prm (N_n (S_N S)) u)) (by omega) (fun v => ⟨fun z => ?_, fun z => ?_⟩) (Int32.not_lt.mpr c169)))
                                   · rcases z with z | ⟨z1, i, z2, z3⟩
                                     · exact Or.inl (Or.inl z)
                                     · by_cases e : i = u
                                       · subst e; exact Or.inr z3.2.2
                                       · exact Or.inl (Or.inr ⟨z1, i, by omega, z3⟩)
                                   · rcases z with (z | ⟨z1, i, z2, z3⟩) | z
                                     · exact Or.inl z
                                     · exact Or.inr ⟨z1, i, by omega, z3⟩
                                     · exact Or.inr ⟨vt, u, by omega, vu, q, z⟩)
                                | (have vu := (prs_VM ok.1 hu).mp (ab_bl_1.mp c126)
                                   have q : ow (fun k => N_t (S_N S) ((prm (N_n (S_N S)) t) ((prm (N_n (S_N S)) u) k))) (bnd (N_n (S_N S)) (N_w (S_N S)) (N_t (S_N S))) = true := by rw [ew]; exact ab_bl_1.mp c163
                                   rw [ev152, nI_add] at c169 ⊢
                                   refine aw_drop 7 (ihu (u + 1) g5 _ (by omega) (c2.add (by decide) (c := mls (fr (S_N S)) (N_n (S_N S)) (prm (N_n (S_N S)) t) + mls (fr (S_N S)) (N_n (S_N S)) (prm (N_n (S_N S)) u)) (by omega) (fun v => ⟨fun z => ?_, fun z => ?_⟩) (Int32.not_le.mp c169)))
                                   · rcases z with z | ⟨z1, i, z2, z3⟩
                                     · exact Or.inl (Or.inl z)
                                     · by_cases e : i = u
                                       · subst e; exact Or.inr z3.2.2
                                       · exact Or.inl (Or.inr ⟨z1, i, by omega, z3⟩)
                                   · rcases z with (z | ⟨z1, i, z2, z3⟩) | z
                                     · exact Or.inl z
                                     · exact Or.inr ⟨z1, i, by omega, z3⟩
                                     · exact Or.inr ⟨vt, u, by omega, vu, q, z⟩)
                            · refine aw_iload d_M_atOnce_166 rfl ?_
                              refine aw_iload_n d_M_atOnce_168 rfl ?_
                              refine aw_icmp_ge (tgt := 177) d_M_atOnce_169 (by decide) (fun c169 => ?_) (fun c169 => ?_)
                              · refine aw_iload_n d_M_atOnce_177 rfl ?_
                                refine aw_istore_n (L' := [some (.ref 56), some (.int w), some (.int o1), some (.int o2), some (.int (nI (t))), some (.int (nI (mls (fr (S_N S)) (N_n (S_N S)) (prm (N_n (S_N S)) t)))), some (.int (nI (u))), some (.int v152)]) d_M_atOnce_178 ⟨by decide, rfl⟩ rfl ?_
                                refine aw_iinc (v := nI ((u) + 1)) (L' := [some (.ref 56), some (.int w), some (.int o1), some (.int o2), some (.int (nI (t))), some (.int (nI (mls (fr (S_N S)) (N_n (S_N S)) (prm (N_n (S_N S)) t)))), some (.int (nI ((u) + 1))), some (.int v152)]) d_M_atOnce_179 rfl (nI_1 _) ⟨by decide, rfl⟩ rfl ?_
                                refine aw_goto (tgt := 111) d_M_atOnce_182 (by decide) ?_
                                first
                                  | (have nv : ¬ VM (N_n (S_N S)) (N_w (S_N S)) (prm (N_n (S_N S)) u) := fun z => by rw [(prs_VM ok.1 hu).mpr z] at c126; exact absurd c126 (by decide)
                                     refine aw_drop 7 (ihu (u + 1) g5 o2 (by omega) (c2.iff (fun v => ⟨fun z => ?_, fun z => ?_⟩)))
                                     · rcases z with z | ⟨z1, i, z2, z3⟩
                                       · exact Or.inl z
                                       · by_cases e : i = u
                                         · subst e; exact absurd z3.1 nv
                                         · exact Or.inr ⟨z1, i, by omega, z3⟩
                                     · rcases z with z | ⟨z1, i, z2, z3⟩
                                       · exact Or.inl z
                                       · exact Or.inr ⟨z1, i, by omega, z3⟩)
                                  | (have vu := (prs_VM ok.1 hu).mp (ab_bl_1.mp c126)
                                     have nq : ¬ ow (fun k => N_t (S_N S) ((prm (N_n (S_N S)) t) ((prm (N_n (S_N S)) u) k))) (bnd (N_n (S_N S)) (N_w (S_N S)) (N_t (S_N S))) = true := fun z => by
                                       rw [ab_bl_0.mp c163] at ew
                                       rw [ew] at z; cases z
                                     refine aw_drop 7 (ihu (u + 1) g5 o2 (by omega) (c2.iff (fun v => ⟨fun z => ?_, fun z => ?_⟩)))
                                     · rcases z with z | ⟨z1, i, z2, z3⟩
                                       · exact Or.inl z
                                       · by_cases e : i = u
                                         · subst e; exact absurd z3.2.1 nq
                                         · exact Or.inr ⟨z1, i, by omega, z3⟩
                                     · rcases z with z | ⟨z1, i, z2, z3⟩
                                       · exact Or.inl z
                                       · exact Or.inr ⟨z1, i, by omega, z3⟩)
                                  | (have vu := (prs_VM ok.1 hu).mp (ab_bl_1.mp c126)
                                     have q : ow (fun k => N_t (S_N S) ((prm (N_n (S_N S)) t) ((prm (N_n (S_N S)) u) k))) (bnd (N_n (S_N S)) (N_w (S_N S)) (N_t (S_N S))) = true := by rw [ew]; exact ab_bl_1.mp c163
                                     rw [ev152, nI_add] at c169
                                     refine aw_drop 7 (ihu (u + 1) g5 o2 (by omega) (c2.keep (by decide) (c := mls (fr (S_N S)) (N_n (S_N S)) (prm (N_n (S_N S)) t) + mls (fr (S_N S)) (N_n (S_N S)) (prm (N_n (S_N S)) u)) (by omega) (fun v => ⟨fun z => ?_, fun z => ?_⟩) (Int32.not_lt.mpr c169)))
                                     · rcases z with z | ⟨z1, i, z2, z3⟩
                                       · exact Or.inl (Or.inl z)
                                       · by_cases e : i = u
                                         · subst e; exact Or.inr z3.2.2
                                         · exact Or.inl (Or.inr ⟨z1, i, by omega, z3⟩)
                                     · rcases z with (z | ⟨z1, i, z2, z3⟩) | z
                                       · exact Or.inl z
                                       · exact Or.inr ⟨z1, i, by omega, z3⟩
                                       · exact Or.inr ⟨vt, u, by omega, vu, q, z⟩)
                                  | (have vu := (prs_VM ok.1 hu).mp (ab_bl_1.mp c126)
                                     have q : ow (fun k => N_t (S_N S) ((prm (N_n (S_N S)) t) ((prm (N_n (S_N S)) u) k))) (bnd (N_n (S_N S)) (N_w (S_N S)) (N_t (S_N S))) = true := by rw [ew]; exact ab_bl_1.mp c163
                                     rw [ev152, nI_add] at c169 ⊢
                                     refine aw_drop 7 (ihu (u + 1) g5 _ (by omega) (c2.add (by decide) (c := mls (fr (S_N S)) (N_n (S_N S)) (prm (N_n (S_N S)) t) + mls (fr (S_N S)) (N_n (S_N S)) (prm (N_n (S_N S)) u)) (by omega) (fun v => ⟨fun z => ?_, fun z => ?_⟩) (Int32.not_le.mp c169)))
                                     · rcases z with z | ⟨z1, i, z2, z3⟩
                                       · exact Or.inl (Or.inl z)
                                       · by_cases e : i = u
                                         · subst e; exact Or.inr z3.2.2
                                         · exact Or.inl (Or.inr ⟨z1, i, by omega, z3⟩)
                                     · rcases z with (z | ⟨z1, i, z2, z3⟩) | z
                                       · exact Or.inl z
                                       · exact Or.inr ⟨z1, i, by omega, z3⟩
                                       · exact Or.inr ⟨vt, u, by omega, vu, q, z⟩)
                              · refine aw_iload d_M_atOnce_172 rfl ?_
                                refine aw_goto (tgt := 178) d_M_atOnce_174 (by decide) ?_
                                refine aw_istore_n (L' := [some (.ref 56), some (.int w), some (.int o1), some (.int v152), some (.int (nI (t))), some (.int (nI (mls (fr (S_N S)) (N_n (S_N S)) (prm (N_n (S_N S)) t)))), some (.int (nI (u))), some (.int v152)]) d_M_atOnce_178 ⟨by decide, rfl⟩ rfl ?_
                                refine aw_iinc (v := nI ((u) + 1)) (L' := [some (.ref 56), some (.int w), some (.int o1), some (.int v152), some (.int (nI (t))), some (.int (nI (mls (fr (S_N S)) (N_n (S_N S)) (prm (N_n (S_N S)) t)))), some (.int (nI ((u) + 1))), some (.int v152)]) d_M_atOnce_179 rfl (nI_1 _) ⟨by decide, rfl⟩ rfl ?_
                                refine aw_goto (tgt := 111) d_M_atOnce_182 (by decide) ?_
                                first
                                  | (have nv : ¬ VM (N_n (S_N S)) (N_w (S_N S)) (prm (N_n (S_N S)) u) := fun z => by rw [(prs_VM ok.1 hu).mpr z] at c126; exact absurd c126 (by decide)
                                     refine aw_drop 7 (ihu (u + 1) g5 o2 (by omega) (c2.iff (fun v => ⟨fun z => ?_, fun z => ?_⟩)))
                                     · rcases z with z | ⟨z1, i, z2, z3⟩
                                       · exact Or.inl z
                                       · by_cases e : i = u
                                         · subst e; exact absurd z3.1 nv
                                         · exact Or.inr ⟨z1, i, by omega, z3⟩
                                     · rcases z with z | ⟨z1, i, z2, z3⟩
                                       · exact Or.inl z
                                       · exact Or.inr ⟨z1, i, by omega, z3⟩)
                                  | (have vu := (prs_VM ok.1 hu).mp (ab_bl_1.mp c126)
                                     have nq : ¬ ow (fun k => N_t (S_N S) ((prm (N_n (S_N S)) t) ((prm (N_n (S_N S)) u) k))) (bnd (N_n (S_N S)) (N_w (S_N S)) (N_t (S_N S))) = true := fun z => by
                                       rw [ab_bl_0.mp c163] at ew
                                       rw [ew] at z; cases z
                                     refine aw_drop 7 (ihu (u + 1) g5 o2 (by omega) (c2.iff (fun v => ⟨fun z => ?_, fun z => ?_⟩)))
                                     · rcases z with z | ⟨z1, i, z2, z3⟩
                                       · exact Or.inl z
                                       · by_cases e : i = u
                                         · subst e; exact absurd z3.2.1 nq
                                         · exact Or.inr ⟨z1, i, by omega, z3⟩
                                     · rcases z with z | ⟨z1, i, z2, z3⟩
                                       · exact Or.inl z
                                       · exact Or.inr ⟨z1, i, by omega, z3⟩)
                                  | (have vu := (prs_VM ok.1 hu).mp (ab_bl_1.mp c126)
                                     have q : ow (fun k => N_t (S_N S) ((prm (N_n (S_N S)) t) ((prm (N_n (S_N S)) u) k))) (bnd (N_n (S_N S)) (N_w (S_N S)) (N_t (S_N S))) = true := by rw [ew]; exact ab_bl_1.mp c163
                                     rw [ev152, nI_add] at c169
                                     refine aw_drop 7 (ihu (u + 1) g5 o2 (by omega) (c2.keep (by decide) (c := mls (fr (S_N S)) (N_n (S_N S)) (prm (N_n (S_N S)) t) + mls (fr (S_N S)) (N_n (S_N S)) (prm (N_n (S_N S)) u)) (by omega) (fun v => ⟨fun z => ?_, fun z => ?_⟩) (Int32.not_lt.mpr c169)))
                                     · rcases z with z | ⟨z1, i, z2, z3⟩
                                       · exact Or.inl (Or.inl z)
                                       · by_cases e : i = u
                                         · subst e; exact Or.inr z3.2.2
                                         · exact Or.inl (Or.inr ⟨z1, i, by omega, z3⟩)
                                     · rcases z with (z | ⟨z1, i, z2, z3⟩) | z
                                       · exact Or.inl z
                                       · exact Or.inr ⟨z1, i, by omega, z3⟩
                                       · exact Or.inr ⟨vt, u, by omega, vu, q, z⟩)
                                  | (have vu := (prs_VM ok.1 hu).mp (ab_bl_1.mp c126)
                                     have q : ow (fun k => N_t (S_N S) ((prm (N_n (S_N S)) t) ((prm (N_n (S_N S)) u) k))) (bnd (N_n (S_N S)) (N_w (S_N S)) (N_t (S_N S))) = true := by rw [ew]; exact ab_bl_1.mp c163
                                     rw [ev152, nI_add] at c169 ⊢
                                     refine aw_drop 7 (ihu (u + 1) g5 _ (by omega) (c2.add (by decide) (c := mls (fr (S_N S)) (N_n (S_N S)) (prm (N_n (S_N S)) t) + mls (fr (S_N S)) (N_n (S_N S)) (prm (N_n (S_N S)) u)) (by omega) (fun v => ⟨fun z => ?_, fun z => ?_⟩) (Int32.not_le.mp c169)))
                                     · rcases z with z | ⟨z1, i, z2, z3⟩
                                       · exact Or.inl (Or.inl z)
                                       · by_cases e : i = u
                                         · subst e; exact Or.inr z3.2.2
                                         · exact Or.inl (Or.inr ⟨z1, i, by omega, z3⟩)
                                     · rcases z with (z | ⟨z1, i, z2, z3⟩) | z
                                       · exact Or.inl z
                                       · exact Or.inr ⟨z1, i, by omega, z3⟩
                                       · exact Or.inr ⟨vt, u, by omega, vu, q, z⟩)
                    exact loopu (TT (N_n (S_N S))) 0 g5 o2 (by omega) (c2.iff (fun v => ⟨fun z => z.elim id (fun y => by obtain ⟨_, b, hb, _⟩ := y; exact absurd hb (Nat.not_lt_zero _)), Or.inl⟩))
                  have ew : ow (fun k => N_t (S_N S) ((prm (N_n (S_N S)) t) k)) (bnd (N_n (S_N S)) (N_w (S_N S)) (N_t (S_N S))) = wlp (N_n (S_N S)) (N_w (S_N S)) (fun k => N_t (S_N S) ((prm (N_n (S_N S)) t) k)) (N_n (S_N S)) := by
                    rw [wlp_ow hn6 h1t.1 h1t.2, bnd_mv hn6 hTb ht9 vt.2.2]
                  first
                    | (have nq : ¬ ow (fun k => N_t (S_N S) ((prm (N_n (S_N S)) t) k)) (bnd (N_n (S_N S)) (N_w (S_N S)) (N_t (S_N S))) = true := fun z => by
                         rw [ab_bl_0.mp c92] at ew
                         rw [ew] at z; cases z
                       refine c108 o1 (c1.iff (fun v => ⟨fun ⟨a, ha, z⟩ => ?_, fun ⟨a, ha, z⟩ => ⟨a, by omega, z⟩⟩))
                       by_cases e : a = t
                       · subst e; exact absurd z.2.1 nq
                       · exact ⟨a, by omega, z⟩)
                    | (have q : ow (fun k => N_t (S_N S) ((prm (N_n (S_N S)) t) k)) (bnd (N_n (S_N S)) (N_w (S_N S)) (N_t (S_N S))) = true := by rw [ew]; exact ab_bl_1.mp c92
                       refine c108 o1 (c1.keep (by decide) (c := mls (fr (S_N S)) (N_n (S_N S)) (prm (N_n (S_N S)) t)) (by omega) (fun v => ⟨fun ⟨a, ha, z⟩ => ?_, fun z => ?_⟩) (Int32.not_lt.mpr c98))
                       · by_cases e : a = t
                         · subst e; exact Or.inr z.2.2
                         · exact Or.inl ⟨a, by omega, z⟩
                       · rcases z with ⟨a, ha, z⟩ | z
                         · exact ⟨a, by omega, z⟩
                         · exact ⟨t, by omega, vt, q, z⟩)
                    | (have q : ow (fun k => N_t (S_N S) ((prm (N_n (S_N S)) t) k)) (bnd (N_n (S_N S)) (N_w (S_N S)) (N_t (S_N S))) = true := by rw [ew]; exact ab_bl_1.mp c92
                       refine c108 _ (c1.add (by decide) (c := mls (fr (S_N S)) (N_n (S_N S)) (prm (N_n (S_N S)) t)) (by omega) (fun v => ⟨fun ⟨a, ha, z⟩ => ?_, fun z => ?_⟩) (Int32.not_le.mp c98))
                       · by_cases e : a = t
                         · subst e; exact Or.inr z.2.2
                         · exact Or.inl ⟨a, by omega, z⟩
                       · rcases z with ⟨a, ha, z⟩ | z
                         · exact ⟨a, by omega, z⟩
                         · exact ⟨t, by omega, vt, q, z⟩)
      exact aw_heap (ab_set_eq (h := HL h (oM (N_n (S_N S)) (N_ns (S_N S)) (N_ra (S_N S)) (N_se (S_N S)) (N_me (S_N S)) (N_mi (S_N S)) (nI (TT (N_n (S_N S)))) (nI ve) la (S_tl S) at_ wr (N_fe (S_N S)) (S_K S).isSome) g1 g2 g3) (a := 75) h75) (loopt (TT (N_n (S_N S))) 0 g1 d5 _ _ (by omega) (Or.inl ⟨fun v ⟨a, ha, _⟩ => absurd ha (Nat.not_lt_zero _), rfl⟩) (Or.inl ⟨fun v ⟨a, ha, _⟩ => absurd ha (Nat.not_lt_zero _), rfl⟩))
    · refine aw_iconst (v := nI 0) d_M_atOnce_24 (by decide) ?_
      refine aw_ireturn d_M_atOnce_25 rfl rfl ?_
      refine ⟨_, S, rfl, ⟨Or.inr ⟨irw, nI 0, nI 0, Or.inl ⟨by rw [← wlp_ow hn6 hTb.1 hTb.2]; exact ab_bl_1.mp c21, rfl, rfl⟩, by split <;> rfl⟩, rfl⟩, ⟨⟨tab, la, at_, wr, ve, fs, ft, m0, by omega, by omega, m3, m4, m5, m6⟩, ⟨n0, n1, n2, n3, n4, n5, n6, n7, n8, n9⟩, q1, q2, q3, q4⟩, rfl, fun k _ => rfl⟩
  · refine aw_iconst (v := (-1)) d_M_atOnce_10 (by decide) ?_
    refine aw_ireturn d_M_atOnce_11 rfl rfl ?_
    refine ⟨_, S, rfl, ⟨Or.inl ⟨fun z => ?_, rfl⟩, rfl⟩, ⟨⟨tab, la, at_, wr, ve, fs, ft, m0, by omega, by omega, m3, m4, m5, m6⟩, ⟨n0, n1, n2, n3, n4, n5, n6, n7, n8, n9⟩, q1, q2, q3, q4⟩, rfl, fun k _ => rfl⟩
    have := of_decide_eq_false (ab_bl_0.mp c7)
    rw [i64_toInt, tl0, tl1] at this
    exact this z
