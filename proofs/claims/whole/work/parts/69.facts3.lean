theorem h22 (h : ab_H) (e1 e2 e3 e4 : ab_E) : ab_set (ab_set (ab_set (ab_set h 20 e1) 22 e2) 20 e3) 22 e4 = ab_set (ab_set h 20 e3) 22 e4 := by
  rw [ab_set_swap (a := 22) (b := 20) (by decide), ab_set_set, ab_set_set]
theorem h20 (h : ab_H) (e1 e2 e3 : ab_E) : ab_set (ab_set (ab_set h 20 e1) 22 e2) 20 e3 = ab_set (ab_set h 20 e3) 22 e2 := by
  rw [ab_set_swap (a := 22) (b := 20) (by decide), ab_set_set]
def rcv (q : Bool × Nat × Nat × (Nat → Nat)) : Int32 := if q.1 then nI q.2.1 else (-20) - nI q.2.2.1
theorem c_readClauses {m : Nat} {h : ab_H} {N : NS} (hX : NX h 2 N) (ok : N_ok N) {len a : Nat} (hT : h 20 = oT len (nI a)) {G : Nat → Int32} (hG : h 21 = .inl (100, G)) {g : Nat → Nat} (hl : len ≤ 100) (ag : ∀ k, k < len → G k = nI (g k)) (hg : ∀ k, k < len → g k < 127) (ha : a ≤ len) (h32 : ∀ k, k < len → 32 ≤ g k) {gd : Nat → Int32} (hD : h 22 = .inl (6, gd)) {d : Nat → Nat} (hdr : DRq gd (N_n N) d) : ab_C Y_Tape_readClauses [.ref 20, .ref 2] m h (fun r9 m2 h2 => r9 = some (.int (rcv (rcl (N_n N) (N_mk N) g len 11 1 a d))) ∧ m2 = m ∧ ∃ gd2 : Nat → Int32, h2 = ab_set (ab_set h 20 (oT len (nI (rcl (N_n N) (N_mk N) g len 11 1 a d).2.2.1))) 22 (.inl (6, gd2)) ∧ DRq gd2 (N_n N) (rcl (N_n N) (N_mk N) g len 11 1 a d).2.2.2) := by
  refine ab_C.of (L := [some (.ref 20), some (.ref 2), none, none]) rfl rfl (Nat.le_of_ble_eq_true rfl) (fun l => ?_)
  have loop : ∀ r c a d gd, c + r = 12 → 1 ≤ c → a ≤ len → DRq gd (N_n N) d → ab_W Y_Tape_readClauses none l (fun r9 m2 h2 => r9 = some (.int (rcv (rcl (N_n N) (N_mk N) g len r c a d))) ∧ m2 = m ∧ ∃ gd2 : Nat → Int32, h2 = ab_set (ab_set h 20 (oT len (nI (rcl (N_n N) (N_mk N) g len r c a d).2.2.1))) 22 (.inl (6, gd2)) ∧ DRq gd2 (N_n N) (rcl (N_n N) (N_mk N) g len r c a d).2.2.2) 2 [some (.ref 20), some (.ref 2), some (.int (nI c)), none] [] m (ab_set (ab_set h 20 (oT len (nI a))) 22 (.inl (6, gd))) (0, 0) := by
    intro r
    induction r with
    | zero =>
      intro c a d gd hc hc1 hal hdr
      have hc2 : 12 = c := by omega
      subst hc2
      have hcl : (cls (N_n N) (N_mk N) g len a d).2.1 ≤ len := cls_le hal
      have hll := lk_le (g := g) hcl
      refine aw_iload_n d_Tape_readClauses_2 rfl ?_
      refine aw_bipush (v := nI 12) d_Tape_readClauses_3 (by decide) ?_
      refine aw_icmp_gt (tgt := 72) d_Tape_readClauses_5 (by decide) (fun c5 => ?_) (fun c5 => ?_)
      · exact absurd c5 (by decide)
      · refine aw_aload_n d_Tape_readClauses_8 rfl ?_
        refine aw_aload_n d_Tape_readClauses_9 rfl ?_
        refine aw_v0 (a := 20) d_Tape_readClauses_10 k_Tape_40 ok_Tape_readClause rfl ⟨rfl, rfl⟩ cl_Tape rfl (c_readClause (h := ab_set (ab_set h 20 (oT len (nI a))) 22 (.inl (6, gd))) (hX.fr (fun k _ _ => by rw [ab_set_ne (by omega), ab_set_ne (by omega)])) ok rfl hG hl ag hg hal rfl hdr) rfl rfl (Nat.le_of_ble_eq_true rfl) (fun r9 m9 h9 q => ?_)
        obtain ⟨rfl, em, gd2, rfl, e2⟩ := q
        rw [em, h22]
        show ab_W _ _ _ _ 13 _ [.int (ab_bl (cls (N_n N) (N_mk N) g len a d).1)] _ _ _
        refine aw_if_ne (tgt := 24) d_Tape_readClauses_13 (by decide) (fun c13 => ?_) (fun c13 => ?_)
        · have k1 := ab_bl_1.mp c13
          refine aw_aload_n d_Tape_readClauses_24 rfl ?_
          refine aw_v0i (a := 20) d_Tape_readClauses_25 k_Tape_44 ok_Tape_look rfl ⟨rfl, rfl⟩ cl_Tape rfl (c_look (h := ab_set (ab_set h 20 (oT len (nI (cls (N_n N) (N_mk N) g len a d).2.1))) 22 (.inl (6, gd2))) (a := (cls (N_n N) (N_mk N) g len a d).2.1) rfl hG hl ag hg hcl) rfl rfl (Nat.le_of_ble_eq_true rfl) ?_
          rw [h20]
          refine aw_topi (fun v28 ev28 => ?_)
          refine aw_istore_n (L' := [some (.ref 20), some (.ref 2), some (.int (nI 12)), some (.int v28)]) d_Tape_readClauses_28 ⟨by decide, rfl⟩ rfl ?_
          refine aw_iload_n d_Tape_readClauses_29 rfl ?_
          refine aw_iconst (v := (-1)) d_Tape_readClauses_30 (by decide) ?_
          refine aw_icmp_ne (tgt := 36) d_Tape_readClauses_31 (by decide) (fun c31 => ?_) (fun c31 => ?_)
          · refine aw_iload_n d_Tape_readClauses_36 rfl ?_
            refine aw_bipush (v := nI 59) d_Tape_readClauses_37 (by decide) ?_
            refine aw_icmp_ne (tgt := 48) d_Tape_readClauses_39 (by decide) (fun c39 => ?_) (fun c39 => ?_)
            · refine aw_bipush (v := (-20)) d_Tape_readClauses_48 (by decide) ?_
              refine aw_aload_n d_Tape_readClauses_50 rfl ?_
              refine aw_get (k := 1) d_Tape_readClauses_51 cl_Tape k_Tape_33 (by decide) rfl rfl ?_
              refine aw_isub d_Tape_readClauses_54 ?_
              refine aw_ireturn d_Tape_readClauses_55 rfl rfl ?_
              have k2 : ¬ sg g len (lk g len (cls (N_n N) (N_mk N) g len a d).2.1) = 0 := fun z => c31 (by
                rw [ev28, lv, if_neg (fun y => ?_)]
                rw [sg, if_pos y] at z
                have := h32 _ y
                omega)
              have e9 : rcl (N_n N) (N_mk N) g len 0 12 a d = (false, 12, (lk g len (cls (N_n N) (N_mk N) g len a d).2.1), (cls (N_n N) (N_mk N) g len a d).2.2) := by
                rw [rcl, k1, decide_eq_false k2]
                rfl
              rw [e9]
              exact ⟨rfl, rfl, gd2, rfl, e2⟩
            · refine aw_iload_n d_Tape_readClauses_42 rfl ?_
              refine aw_bipush (v := nI 12) d_Tape_readClauses_43 (by decide) ?_
              refine aw_icmp_ne (tgt := 56) d_Tape_readClauses_45 (by decide) (fun c45 => ?_) (fun c45 => ?_)
              · first | exact absurd c45 (by decide) | exact absurd (by decide) c45
              · refine aw_bipush (v := (-20)) d_Tape_readClauses_48 (by decide) ?_
                refine aw_aload_n d_Tape_readClauses_50 rfl ?_
                refine aw_get (k := 1) d_Tape_readClauses_51 cl_Tape k_Tape_33 (by decide) rfl rfl ?_
                refine aw_isub d_Tape_readClauses_54 ?_
                refine aw_ireturn d_Tape_readClauses_55 rfl rfl ?_
                have k2 : ¬ sg g len (lk g len (cls (N_n N) (N_mk N) g len a d).2.1) = 0 := fun z => c31 (by
                  rw [ev28, lv, if_neg (fun y => ?_)]
                  rw [sg, if_pos y] at z
                  have := h32 _ y
                  omega)
                have e9 : rcl (N_n N) (N_mk N) g len 0 12 a d = (false, 12, (lk g len (cls (N_n N) (N_mk N) g len a d).2.1), (cls (N_n N) (N_mk N) g len a d).2.2) := by
                  rw [rcl, k1, decide_eq_false k2]
                  rfl
                rw [e9]
                exact ⟨rfl, rfl, gd2, rfl, e2⟩
          · refine aw_iload_n d_Tape_readClauses_34 rfl ?_
            refine aw_ireturn d_Tape_readClauses_35 rfl rfl ?_
            have k2 : sg g len (lk g len (cls (N_n N) (N_mk N) g len a d).2.1) = 0 := by
              rw [ev28] at c31
              unfold lv at c31
              unfold sg
              split at c31
              · next z => exact absurd (congrArg Int32.toInt c31) (by rw [nI_toInt (by have := hg _ z; omega), tim1]; omega)
              · next z => rw [if_neg z]
            have e9 : rcl (N_n N) (N_mk N) g len 0 12 a d = (true, 12, (lk g len (cls (N_n N) (N_mk N) g len a d).2.1), (cls (N_n N) (N_mk N) g len a d).2.2) := by
              rw [rcl]
              rw [k1, decide_eq_true k2]; rfl
            rw [e9]
            exact ⟨rfl, rfl, gd2, rfl, e2⟩
        · refine aw_bipush (v := (-20)) d_Tape_readClauses_16 (by decide) ?_
          refine aw_aload_n d_Tape_readClauses_18 rfl ?_
          refine aw_get (k := 1) d_Tape_readClauses_19 cl_Tape k_Tape_33 (by decide) rfl rfl ?_
          refine aw_isub d_Tape_readClauses_22 ?_
          refine aw_ireturn d_Tape_readClauses_23 rfl rfl ?_
          have k1 := ab_bl_0.mp c13
          have e9 : rcl (N_n N) (N_mk N) g len 0 12 a d = (false, 12, (cls (N_n N) (N_mk N) g len a d).2.1, (cls (N_n N) (N_mk N) g len a d).2.2) := by
            rw [rcl]
            rw [k1]; rfl
          rw [e9]
          exact ⟨rfl, rfl, gd2, rfl, e2⟩
    | succ r ih =>
      intro c a d gd hc hc1 hal hdr
      have hcl : (cls (N_n N) (N_mk N) g len a d).2.1 ≤ len := cls_le hal
      have hll := lk_le (g := g) hcl
      refine aw_iload_n d_Tape_readClauses_2 rfl ?_
      refine aw_bipush (v := nI 12) d_Tape_readClauses_3 (by decide) ?_
      refine aw_icmp_gt (tgt := 72) d_Tape_readClauses_5 (by decide) (fun c5 => ?_) (fun c5 => ?_)
      · exact absurd ((nI_ltI (by decide) (by omega)).mp c5) (by omega)
      · refine aw_aload_n d_Tape_readClauses_8 rfl ?_
        refine aw_aload_n d_Tape_readClauses_9 rfl ?_
        refine aw_v0 (a := 20) d_Tape_readClauses_10 k_Tape_40 ok_Tape_readClause rfl ⟨rfl, rfl⟩ cl_Tape rfl (c_readClause (h := ab_set (ab_set h 20 (oT len (nI a))) 22 (.inl (6, gd))) (hX.fr (fun k _ _ => by rw [ab_set_ne (by omega), ab_set_ne (by omega)])) ok rfl hG hl ag hg hal rfl hdr) rfl rfl (Nat.le_of_ble_eq_true rfl) (fun r9 m9 h9 q => ?_)
        obtain ⟨rfl, em, gd2, rfl, e2⟩ := q
        rw [em, h22]
        show ab_W _ _ _ _ 13 _ [.int (ab_bl (cls (N_n N) (N_mk N) g len a d).1)] _ _ _
        refine aw_if_ne (tgt := 24) d_Tape_readClauses_13 (by decide) (fun c13 => ?_) (fun c13 => ?_)
        · have k1 := ab_bl_1.mp c13
          refine aw_aload_n d_Tape_readClauses_24 rfl ?_
          refine aw_v0i (a := 20) d_Tape_readClauses_25 k_Tape_44 ok_Tape_look rfl ⟨rfl, rfl⟩ cl_Tape rfl (c_look (h := ab_set (ab_set h 20 (oT len (nI (cls (N_n N) (N_mk N) g len a d).2.1))) 22 (.inl (6, gd2))) (a := (cls (N_n N) (N_mk N) g len a d).2.1) rfl hG hl ag hg hcl) rfl rfl (Nat.le_of_ble_eq_true rfl) ?_
          rw [h20]
          refine aw_topi (fun v28 ev28 => ?_)
          refine aw_istore_n (L' := [some (.ref 20), some (.ref 2), some (.int (nI c)), some (.int v28)]) d_Tape_readClauses_28 ⟨by decide, rfl⟩ rfl ?_
          refine aw_iload_n d_Tape_readClauses_29 rfl ?_
          refine aw_iconst (v := (-1)) d_Tape_readClauses_30 (by decide) ?_
          refine aw_icmp_ne (tgt := 36) d_Tape_readClauses_31 (by decide) (fun c31 => ?_) (fun c31 => ?_)
          · refine aw_iload_n d_Tape_readClauses_36 rfl ?_
            refine aw_bipush (v := nI 59) d_Tape_readClauses_37 (by decide) ?_
            refine aw_icmp_ne (tgt := 48) d_Tape_readClauses_39 (by decide) (fun c39 => ?_) (fun c39 => ?_)
            · refine aw_bipush (v := (-20)) d_Tape_readClauses_48 (by decide) ?_
              refine aw_aload_n d_Tape_readClauses_50 rfl ?_
              refine aw_get (k := 1) d_Tape_readClauses_51 cl_Tape k_Tape_33 (by decide) rfl rfl ?_
              refine aw_isub d_Tape_readClauses_54 ?_
              refine aw_ireturn d_Tape_readClauses_55 rfl rfl ?_
              have k2 : ¬ sg g len (lk g len (cls (N_n N) (N_mk N) g len a d).2.1) = 0 := fun z => c31 (by
                rw [ev28, lv, if_neg (fun y => ?_)]
                rw [sg, if_pos y] at z
                have := h32 _ y
                omega)
              first
                | (exfalso; exact absurd ((nI_eq (by omega) (by decide)).mp c45) (by omega))
                | (have k3 : ¬ sg g len (lk g len (cls (N_n N) (N_mk N) g len a d).2.1) = 59 := fun z => c39 (ev28.trans ((lv_c hg (by decide) (by decide)).mpr z))
                   have e9 : rcl (N_n N) (N_mk N) g len (r + 1) c a d = (false, c, (lk g len (cls (N_n N) (N_mk N) g len a d).2.1), (cls (N_n N) (N_mk N) g len a d).2.2) := by
                     rw [rcl, if_neg (fun z => z k1), if_neg k2, if_pos k3]
                   rw [e9]
                   exact ⟨rfl, rfl, gd2, rfl, e2⟩)
            · refine aw_iload_n d_Tape_readClauses_42 rfl ?_
              refine aw_bipush (v := nI 12) d_Tape_readClauses_43 (by decide) ?_
              refine aw_icmp_ne (tgt := 56) d_Tape_readClauses_45 (by decide) (fun c45 => ?_) (fun c45 => ?_)
              · refine aw_aload_n d_Tape_readClauses_56 rfl ?_
                refine aw_dup d_Tape_readClauses_57 rfl ?_
                refine aw_get (k := 1) d_Tape_readClauses_58 cl_Tape k_Tape_33 (by decide) rfl rfl ?_
                refine aw_iconst (v := nI 1) d_Tape_readClauses_61 (by decide) ?_
                refine aw_iadd d_Tape_readClauses_62 ?_
                rw [nI_add]
                refine aw_put (k := 1) (fs' := [.int (nI len), .int (nI ((lk g len (cls (N_n N) (N_mk N) g len a d).2.1) + 1)), .ref 21, .ref 22]) d_Tape_readClauses_63 cl_Tape k_Tape_33 (by decide) rfl ⟨rfl, rfl⟩ rfl (Nat.le_of_ble_eq_true rfl) rfl ?_
                refine aw_iinc (v := nI (c + 1)) (L' := [some (.ref 20), some (.ref 2), some (.int (nI (c + 1))), some (.int v28)]) d_Tape_readClauses_66 rfl (nI_1 _) ⟨by decide, rfl⟩ rfl ?_
                refine aw_goto (tgt := 2) d_Tape_readClauses_69 (by decide) ?_
                have k3 : sg g len (lk g len (cls (N_n N) (N_mk N) g len a d).2.1) = 59 := (lv_c hg (by decide) (by decide)).mp (ev28.symm.trans c39)
                have k4 : (lk g len (cls (N_n N) (N_mk N) g len a d).2.1) < len := sg_lt (b := 1) (by decide) (by rw [k3]; decide)
                have e9 : rcl (N_n N) (N_mk N) g len (r + 1) c a d = rcl (N_n N) (N_mk N) g len r (c + 1) ((lk g len (cls (N_n N) (N_mk N) g len a d).2.1) + 1) (cls (N_n N) (N_mk N) g len a d).2.2 := by
                  rw [rcl, if_neg (fun z => z k1), if_neg (by rw [k3]; decide), if_neg (fun z => z k3)]
                rw [h20, e9]
                exact aw_drop 3 (ih (c + 1) ((lk g len (cls (N_n N) (N_mk N) g len a d).2.1) + 1) (cls (N_n N) (N_mk N) g len a d).2.2 gd2 (by omega) (by omega) (by omega) e2)
              · refine aw_bipush (v := (-20)) d_Tape_readClauses_48 (by decide) ?_
                refine aw_aload_n d_Tape_readClauses_50 rfl ?_
                refine aw_get (k := 1) d_Tape_readClauses_51 cl_Tape k_Tape_33 (by decide) rfl rfl ?_
                refine aw_isub d_Tape_readClauses_54 ?_
                refine aw_ireturn d_Tape_readClauses_55 rfl rfl ?_
                have k2 : ¬ sg g len (lk g len (cls (N_n N) (N_mk N) g len a d).2.1) = 0 := fun z => c31 (by
                  rw [ev28, lv, if_neg (fun y => ?_)]
                  rw [sg, if_pos y] at z
                  have := h32 _ y
                  omega)
                first
                  | (exfalso; exact absurd ((nI_eq (by omega) (by decide)).mp c45) (by omega))
                  | (have k3 : ¬ sg g len (lk g len (cls (N_n N) (N_mk N) g len a d).2.1) = 59 := fun z => c39 (ev28.trans ((lv_c hg (by decide) (by decide)).mpr z))
                     have e9 : rcl (N_n N) (N_mk N) g len (r + 1) c a d = (false, c, (lk g len (cls (N_n N) (N_mk N) g len a d).2.1), (cls (N_n N) (N_mk N) g len a d).2.2) := by
                       rw [rcl, if_neg (fun z => z k1), if_neg k2, if_pos k3]
                     rw [e9]
                     exact ⟨rfl, rfl, gd2, rfl, e2⟩)
          · refine aw_iload_n d_Tape_readClauses_34 rfl ?_
            refine aw_ireturn d_Tape_readClauses_35 rfl rfl ?_
            have k2 : sg g len (lk g len (cls (N_n N) (N_mk N) g len a d).2.1) = 0 := by
              rw [ev28] at c31
              unfold lv at c31
              unfold sg
              split at c31
              · next z => exact absurd (congrArg Int32.toInt c31) (by rw [nI_toInt (by have := hg _ z; omega), tim1]; omega)
              · next z => rw [if_neg z]
            have e9 : rcl (N_n N) (N_mk N) g len (r + 1) c a d = (true, c, (lk g len (cls (N_n N) (N_mk N) g len a d).2.1), (cls (N_n N) (N_mk N) g len a d).2.2) := by
              rw [rcl]
              rw [if_neg (fun z => z k1), if_pos k2]
            rw [e9]
            exact ⟨rfl, rfl, gd2, rfl, e2⟩
        · refine aw_bipush (v := (-20)) d_Tape_readClauses_16 (by decide) ?_
          refine aw_aload_n d_Tape_readClauses_18 rfl ?_
          refine aw_get (k := 1) d_Tape_readClauses_19 cl_Tape k_Tape_33 (by decide) rfl rfl ?_
          refine aw_isub d_Tape_readClauses_22 ?_
          refine aw_ireturn d_Tape_readClauses_23 rfl rfl ?_
          have k1 := ab_bl_0.mp c13
          have e9 : rcl (N_n N) (N_mk N) g len (r + 1) c a d = (false, c, (cls (N_n N) (N_mk N) g len a d).2.1, (cls (N_n N) (N_mk N) g len a d).2.2) := by
            rw [rcl]
            rw [if_pos (by rw [k1]; decide)]
          rw [e9]
          exact ⟨rfl, rfl, gd2, rfl, e2⟩
  have lp := loop 11 1 a d gd (by omega) (by omega) ha hdr
  rw [ab_set_eq (h := ab_set h 20 _) (a := 22) hD, ab_set_eq hT] at lp
  refine aw_iconst (v := nI 1) d_Tape_readClauses_0 (by decide) ?_
  refine aw_istore_n (L' := [some (.ref 20), some (.ref 2), some (.int (nI 1)), none]) d_Tape_readClauses_1 ⟨by decide, rfl⟩ rfl ?_
  exact lp
theorem rcl_c {n : Nat} {mk g : Nat → Nat} {len : Nat} : ∀ (r c a : Nat) (d : Nat → Nat), (rcl n mk g len r c a d).2.1 ≤ c + r ∧ c ≤ (rcl n mk g len r c a d).2.1
  | 0, c, a, d => by rw [rcl]; exact ⟨Nat.le_refl _, Nat.le_refl _⟩
  | r + 1, c, a, d => by
    rw [rcl]
    split
    · exact ⟨Nat.le_add_right _ _, Nat.le_refl _⟩
    · split
      · exact ⟨Nat.le_add_right _ _, Nat.le_refl _⟩
      · split
        · exact ⟨Nat.le_add_right _ _, Nat.le_refl _⟩
        · have := rcl_c (n := n) (mk := mk) (g := g) (len := len) r (c + 1) (lk g len (cls n mk g len a d).2.1 + 1) (cls n mk g len a d).2.2
          omega
theorem rcl_a {n : Nat} {mk g : Nat → Nat} {len : Nat} : ∀ (r c a : Nat) (d : Nat → Nat), a ≤ len → (rcl n mk g len r c a d).2.2.1 ≤ len
  | 0, c, a, d, h => by
    have h1 := cls_le (n := n) (mk := mk) (g := g) (d := d) h
    have h2 := (lk_le (g := g) h1).2
    rw [rcl]
    show (if _ then _ else _) ≤ len
    split
    · exact h2
    · exact h1
  | r + 1, c, a, d, h => by
    have h1 := cls_le (n := n) (mk := mk) (g := g) (d := d) h
    have h2 := (lk_le (g := g) h1).2
    rw [rcl]
    split
    · exact h1
    · split
      · exact h2
      · split
        · exact h2
        · next z =>
          apply rcl_a
          have z2 : sg g len (lk g len (cls n mk g len a d).2.1) = 59 := Classical.not_not.mp z
          exact sg_lt (b := 1) (by decide) (by rw [z2]; decide)
theorem m20 : (-20 : Int32).toInt = -20 := by decide
theorem c_read {m : Nat} {h : ab_H} {N : NS} (hX : NX h 2 N) (ok : N_ok N) {len : Nat} {pl : Int32} (hT : h 20 = oT len pl) {G : Nat → Int32} (hG : h 21 = .inl (100, G)) {g : Nat → Nat} (hl : len ≤ 100) (ag : ∀ k, k < len → G k = nI (g k)) (hg : ∀ k, k < len → g k < 127) (h32 : ∀ k, k < len → 32 ≤ g k) {gd : Nat → Int32} (hD : h 22 = .inl (6, gd)) : ab_C Y_Tape_read [.ref 20, .ref 2] m h (fun r9 m2 h2 => r9 = some (.int (rcv (rcl (N_n N) (N_mk N) g len 11 1 0 (N_ma N)))) ∧ m2 = m ∧ NX h2 2 (if (rcl (N_n N) (N_mk N) g len 11 1 0 (N_ma N)).1 then N_ma_ N (rcl (N_n N) (N_mk N) g len 11 1 0 (N_ma N)).2.2.2 else N) ∧ (∃ pl, h2 20 = oT 0 pl) ∧ ra_ h2 22 6 ∧ ∀ k, k ≠ 7 → k ≠ 20 → k ≠ 22 → h2 k = h k) := by
  obtain ⟨n0, ⟨gx, hx, ax⟩, ⟨gy, hy, ay⟩, ⟨gm, hm, am⟩, ⟨gl, hl9, al⟩, ⟨ga, ha9, aa⟩, ⟨gi, hi, ai⟩, ⟨gj, hj0, aj⟩, ⟨gf, hf0, af⟩⟩ := id hX
  have hn6 : N_n N ≤ 6 := ok.1
  have hns : N_ns N ≤ 4 := ok.2.2.2.2.2.2.2.2.1
  have hpm := ok.pm
  have hw6 := ok.w6
  have hfx := ok.2.2.1
  have bx := ok.2.2.2.2.2.1
  have bi := ok.2.2.2.2.2.2.2.2.2.1
  refine ab_C.of (L := [some (.ref 20), some (.ref 2), none]) rfl rfl (Nat.le_of_ble_eq_true rfl) (fun l => ?_)
  refine aw_aload_n d_Tape_read_0 rfl ?_
  refine aw_get (k := 5) d_Tape_read_1 cl_Night k_Tape_22 (by decide) n0 rfl ?_
  refine aw_iconst (v := nI 0) d_Tape_read_4 (by decide) ?_
  refine aw_aload_n d_Tape_read_5 rfl ?_
  refine aw_get (k := 3) d_Tape_read_6 cl_Tape k_Tape_15 (by decide) hT rfl ?_
  refine aw_iconst (v := nI 0) d_Tape_read_9 (by decide) ?_
  refine aw_bipush (v := nI 6) d_Tape_read_10 (by decide) ?_
  refine aw_copy d_Tape_read_12 k_Tape_27 ⟨by decide, Nat.le_of_ble_eq_true rfl⟩ ha9 hD (by decide) (by decide) (by decide) (by decide) (by decide) ?_
  refine aw_aload_n d_Tape_read_15 rfl ?_
  refine aw_iconst (v := nI 0) d_Tape_read_16 (by decide) ?_
  refine aw_put (k := 1) (fs' := [.int (nI len), .int (nI 0), .ref 21, .ref 22]) d_Tape_read_17 cl_Tape k_Tape_33 (by decide) rfl ⟨rfl, rfl⟩ hT (Nat.le_of_ble_eq_true rfl) rfl ?_
  refine aw_aload_n d_Tape_read_20 rfl ?_
  refine aw_aload_n d_Tape_read_21 rfl ?_
  have hdr0 : DRq (va_cpy ga gd (nI 0).toNatClampNeg (nI 0).toNatClampNeg (nI 6).toNatClampNeg) (N_n N) (N_ma N) := fun k hk => by
    rw [cpy0 (Nat.lt_of_lt_of_le hk hn6) (by decide)]
    exact aa k hk
  refine aw_v0 (a := 20) d_Tape_read_22 k_Tape_36 ok_Tape_readClauses rfl ⟨rfl, rfl⟩ cl_Tape rfl (c_readClauses (h := ab_set (ab_set h 22 (.inl (6, va_cpy ga gd (nI 0).toNatClampNeg (nI 0).toNatClampNeg (nI 6).toNatClampNeg))) 20 (oT len (nI 0))) (hX.fr (fun k _ _ => by rw [ab_set_ne (by omega), ab_set_ne (by omega)])) ok (a := 0) rfl hG hl ag hg (Nat.zero_le _) h32 (gd := va_cpy ga gd (nI 0).toNatClampNeg (nI 0).toNatClampNeg (nI 6).toNatClampNeg) rfl hdr0) rfl rfl (Nat.le_of_ble_eq_true rfl) (fun r9 m9 h9 q => ?_)
  obtain ⟨rfl, em, gd2, rfl, e2⟩ := q
  rw [em]
  show ab_W _ _ _ _ 25 _ [.int (rcv (rcl (N_n N) (N_mk N) g len 11 1 0 (N_ma N)))] _ _ _
  rw [show ∀ (H : ab_H) (e1 e2 e3 e4 : ab_E), ab_set (ab_set (ab_set (ab_set H 22 e1) 20 e2) 20 e3) 22 e4 = ab_set (ab_set H 20 e3) 22 e4 from fun H e1 e2 e3 e4 => by rw [ab_set_set, ab_set_swap (a := 22) (b := 20) (by decide), ab_set_set]]
  have rc := rcl_c (n := N_n N) (mk := N_mk N) (g := g) (len := len) 11 1 0 (N_ma N)
  have ra := rcl_a (n := N_n N) (mk := N_mk N) (g := g) (len := len) 11 1 0 (N_ma N) (Nat.zero_le _)
  refine aw_topi (fun v25 ev25 => ?_)
  refine aw_istore_n (L' := [some (.ref 20), some (.ref 2), some (.int v25)]) d_Tape_read_25 ⟨by decide, rfl⟩ rfl ?_
  refine aw_iload_n d_Tape_read_26 rfl ?_
  refine aw_if_le (tgt := 45) d_Tape_read_27 (by decide) (fun c27 => ?_) (fun c27 => ?_)
  · refine aw_aload_n d_Tape_read_45 rfl ?_
    refine aw_iconst (v := nI 0) d_Tape_read_46 (by decide) ?_
    refine aw_put (k := 0) (fs' := [.int (nI 0), .int (nI (rcl (N_n N) (N_mk N) g len 11 1 0 (N_ma N)).2.2.1), .ref 21, .ref 22]) d_Tape_read_47 cl_Tape k_Tape_18 (by decide) rfl ⟨rfl, rfl⟩ rfl (Nat.le_of_ble_eq_true rfl) rfl ?_
    refine aw_iload_n d_Tape_read_50 rfl ?_
    refine aw_ireturn d_Tape_read_51 rfl rfl ?_
    by_cases q : (rcl (N_n N) (N_mk N) g len 11 1 0 (N_ma N)).1 = true
    · have hv : ¬ v25 ≤ 0 := by
        rw [ev25, rcv, if_pos q]
        exact nI_nle (by omega) (by omega)
      first
        | exact absurd c27 hv
        | (rw [ev25, if_pos q]
           refine ⟨rfl, rfl, ⟨n0, ⟨gx, hx, ax⟩, ⟨gy, hy, ay⟩, ⟨gm, hm, am⟩, ⟨gl, hl9, al⟩, ⟨_, rfl, fun k hk => ?_⟩, ⟨gi, hi, ai⟩, ⟨gj, hj0, aj⟩, ⟨gf, hf0, af⟩⟩, ⟨_, rfl⟩, ⟨_, rfl⟩, fun k k1 k2 k3 => by simp only [ab_set]; repeat rw [if_neg (by omega)]⟩
           rw [cpy0 (Nat.lt_of_lt_of_le (show k < N_n N from hk) hn6) (by decide)]
           exact e2 k hk)
    · have hv : v25 ≤ 0 := by
        rw [ev25, rcv, if_neg q, fa_le, Int32.toInt_zero, fb_subI (by rw [nI_toInt (by omega), m20]; omega) (by rw [nI_toInt (by omega), m20]; omega), nI_toInt (by omega), m20]
        omega
      first
        | exact absurd hv c27
        | (rw [ev25, if_neg q]
           exact ⟨rfl, rfl, hX.fr (fun k _ _ => by simp only [ab_set]; repeat rw [if_neg (by omega)]), ⟨_, rfl⟩, ⟨_, rfl⟩, fun k k1 k2 k3 => by simp only [ab_set]; repeat rw [if_neg (by omega)]⟩)
  · refine aw_aload_n d_Tape_read_30 rfl ?_
    refine aw_get (k := 3) d_Tape_read_31 cl_Tape k_Tape_15 (by decide) rfl rfl ?_
    refine aw_iconst (v := nI 0) d_Tape_read_34 (by decide) ?_
    refine aw_aload_n d_Tape_read_35 rfl ?_
    refine aw_get (k := 5) d_Tape_read_36 cl_Night k_Tape_22 (by decide) n0 rfl ?_
    refine aw_iconst (v := nI 0) d_Tape_read_39 (by decide) ?_
    refine aw_bipush (v := nI 6) d_Tape_read_40 (by decide) ?_
    refine aw_copy d_Tape_read_42 k_Tape_27 ⟨by decide, Nat.le_of_ble_eq_true rfl⟩ rfl ha9 (by decide) (by decide) (by decide) (by decide) (by decide) ?_
    refine aw_aload_n d_Tape_read_45 rfl ?_
    refine aw_iconst (v := nI 0) d_Tape_read_46 (by decide) ?_
    refine aw_put (k := 0) (fs' := [.int (nI 0), .int (nI (rcl (N_n N) (N_mk N) g len 11 1 0 (N_ma N)).2.2.1), .ref 21, .ref 22]) d_Tape_read_47 cl_Tape k_Tape_18 (by decide) rfl ⟨rfl, rfl⟩ rfl (Nat.le_of_ble_eq_true rfl) rfl ?_
    refine aw_iload_n d_Tape_read_50 rfl ?_
    refine aw_ireturn d_Tape_read_51 rfl rfl ?_
    by_cases q : (rcl (N_n N) (N_mk N) g len 11 1 0 (N_ma N)).1 = true
    · have hv : ¬ v25 ≤ 0 := by
        rw [ev25, rcv, if_pos q]
        exact nI_nle (by omega) (by omega)
      first
        | exact absurd c27 hv
        | (rw [ev25, if_pos q]
           refine ⟨rfl, rfl, ⟨n0, ⟨gx, hx, ax⟩, ⟨gy, hy, ay⟩, ⟨gm, hm, am⟩, ⟨gl, hl9, al⟩, ⟨_, rfl, fun k hk => ?_⟩, ⟨gi, hi, ai⟩, ⟨gj, hj0, aj⟩, ⟨gf, hf0, af⟩⟩, ⟨_, rfl⟩, ⟨_, rfl⟩, fun k k1 k2 k3 => by simp only [ab_set]; repeat rw [if_neg (by omega)]⟩
           rw [cpy0 (Nat.lt_of_lt_of_le (show k < N_n N from hk) hn6) (by decide)]
           exact e2 k hk)
    · have hv : v25 ≤ 0 := by
        rw [ev25, rcv, if_neg q, fa_le, Int32.toInt_zero, fb_subI (by rw [nI_toInt (by omega), m20]; omega) (by rw [nI_toInt (by omega), m20]; omega), nI_toInt (by omega), m20]
        omega
      first
        | exact absurd hv c27
        | (rw [ev25, if_neg q]
           exact ⟨rfl, rfl, hX.fr (fun k _ _ => by simp only [ab_set]; repeat rw [if_neg (by omega)]), ⟨_, rfl⟩, ⟨_, rfl⟩, fun k k1 k2 k3 => by simp only [ab_set]; repeat rw [if_neg (by omega)]⟩)
theorem x_facts {V : VV} {m : Nat} {h : ab_H} {S : SS} (hX : PX V m h S) (ok : S_ok S) (hV : V_ok V) : CX V Y_Coat_facts [] m h (fun r S2 => (r, S2) = sp_facts S) := by
  obtain ⟨⟨a0, ⟨n0, n1, n2, n3, n4, n5, n6, n7, n8⟩, a2⟩, p1, p2, p3, p4, p5, p6, p7⟩ := id hX
  have hn6 : N_n (S_N S) ≤ 6 := ok.1.1
  have hnT := nI_toInt (show N_n (S_N S) < 2 ^ 31 by omega)
  have hNX : NX h 2 (S_N S) := ⟨n0, n1, n2, n3, n4, n5, n6, n7, n8⟩
  have htl : S_tl S ≤ 100 := ok.2.2.1
  obtain ⟨⟨pl, t0⟩, ⟨g0, t1, t2⟩, ⟨gd, t3⟩⟩ := p1
  have hsg : ∀ k, k < S_tl S → S_ts S k = nI (cl (S_ts S k)) ∧ 32 ≤ cl (S_ts S k) ∧ cl (S_ts S k) ≤ 126 := fun k hk => by
    obtain ⟨j, j1, j2, j3⟩ := ok.2.2.2.1 k hk
    rw [j3, cl_nI (by omega)]
    exact ⟨rfl, j1, j2⟩
  refine ab_C.of (L := [some (.ref 1)]) rfl rfl (Nat.le_of_ble_eq_true rfl) (fun l => ?_)
  refine aw_aload_n d_Coat_facts_0 rfl ?_
  refine aw_get (k := 3) d_Coat_facts_1 cl_Coat k_Coat_22 (by decide) a0 rfl ?_
  refine aw_aload_n d_Coat_facts_4 rfl ?_
  refine aw_get (k := 0) d_Coat_facts_5 cl_Coat k_Coat_10 (by decide) a0 rfl ?_
  refine aw_v0 (a := 20) d_Coat_facts_8 k_Coat_237 ok_Tape_read rfl ⟨rfl, rfl⟩ cl_Tape t0 (c_read hNX ok.1 t0 t1 (g := fun k => cl (S_ts S k)) htl (fun k hk => (t2 k hk).trans (hsg k hk).1) (fun k hk => by have := (hsg k hk).2.2; omega) (fun k hk => (hsg k hk).2.1) t3) rfl rfl (Nat.le_of_ble_eq_true rfl) (fun r9 m9 h9 q => ?_)
  obtain ⟨rfl, em, e2, ⟨pl2, e3⟩, e4, f9⟩ := q
  rw [em]
  show ab_W _ _ _ _ 11 _ [.int (rcv (fcs S))] _ _ _
  refine aw_ireturn d_Coat_facts_11 rfl rfl ?_
  have e21 : h9 21 = .inl (100, g0) := (f9 21 (by omega) (by omega) (by omega)).trans t1
  by_cases q : (fcs S).1 = true
  · have e2 : NX h9 2 (N_ma_ (S_N S) (fcs S).2.2.2) := by
      have := e2
      rw [show (rcl (N_n (S_N S)) (N_mk (S_N S)) (fun k => cl (S_ts S k)) (S_tl S) 11 1 0 (N_ma (S_N S))) = fcs S from rfl, if_pos q] at this
      exact this
    refine ⟨_, S_tl_ (S_N_ S (N_ma_ (S_N S) (fcs S).2.2.2)) 0, rfl, ?_, ⟨⟨(f9 1 (by omega) (by omega) (by omega)).trans a0, e2, PXk.fr (K := S_K S) (fun k _ _ => f9 k (by omega) (by omega) (by omega)) a2⟩, ⟨⟨pl2, e3⟩, ⟨g0, e21, fun k hk => absurd hk (Nat.not_lt_zero _)⟩, e4⟩, p2.fr (fun k _ _ => f9 k (by omega) (by omega) (by omega)), p3.fr (fun k _ _ => f9 k (by omega) (by omega) (by omega)), (p4.fr (fun k _ _ => f9 k (by omega) (by omega) (by omega))).cg (hV.2.2.1 _ _).1, (p5.fr (fun k _ _ => f9 k (by omega) (by omega) (by omega))).cg (hV.2.2.1 _ _).2.1, (p6.fr (fun k _ _ => f9 k (by omega) (by omega) (by omega))).cg (hV.2.2.1 _ _).2.2.1, p7.fr (fun k _ => f9 k (by omega) (by omega) (by omega))⟩, Nat.le_refl _, (fun k _ _ => f9 k (by omega) (by omega) (by omega))⟩
    unfold sp_facts rcv
    rw [if_pos q, if_pos q]
  · have e2 : NX h9 2 (S_N S) := by
      have := e2
      rw [show (rcl (N_n (S_N S)) (N_mk (S_N S)) (fun k => cl (S_ts S k)) (S_tl S) 11 1 0 (N_ma (S_N S))) = fcs S from rfl, if_neg q] at this
      exact this
    refine ⟨_, S_tl_ S 0, rfl, ?_, ⟨⟨(f9 1 (by omega) (by omega) (by omega)).trans a0, e2, PXk.fr (K := S_K S) (fun k _ _ => f9 k (by omega) (by omega) (by omega)) a2⟩, ⟨⟨pl2, e3⟩, ⟨g0, e21, fun k hk => absurd hk (Nat.not_lt_zero _)⟩, e4⟩, p2.fr (fun k _ _ => f9 k (by omega) (by omega) (by omega)), p3.fr (fun k _ _ => f9 k (by omega) (by omega) (by omega)), p4.fr (fun k _ _ => f9 k (by omega) (by omega) (by omega)), p5.fr (fun k _ _ => f9 k (by omega) (by omega) (by omega)), p6.fr (fun k _ _ => f9 k (by omega) (by omega) (by omega)), p7.fr (fun k _ => f9 k (by omega) (by omega) (by omega))⟩, Nat.le_refl _, (fun k _ _ => f9 k (by omega) (by omega) (by omega))⟩
    unfold sp_facts rcv
    rw [if_neg q, if_neg q]
