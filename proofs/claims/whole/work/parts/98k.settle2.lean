abbrev HT (h : ab_H) (gm gn : Nat → Int32) : ab_H := ab_set (ab_set h 70 (.inl (720, gm))) 71 (.inl (720, gn))
theorem ht_71 (h : ab_H) (gm gn g : Nat → Int32) : ab_set (HT h gm gn) 71 (.inl (720, g)) = HT h gm g := ab_set_set _ _ _ _
theorem ht_70 (h : ab_H) (gm gn g : Nat → Int32) : ab_set (HT h gm gn) 70 (.inl (720, g)) = HT h g gn := by
  unfold HT
  rw [ab_set_swap (show 71 ≠ 70 by decide), ab_set_set]
theorem ht_h {h : ab_H} {gm gn : Nat → Int32} (h0 : h 70 = .inl (720, gm)) (h1 : h 71 = .inl (720, gn)) : HT h gm gn = h := by
  unfold HT
  rw [ab_set_eq h0, ab_set_eq h1]
theorem HT_ne {h : ab_H} {gm gn : Nat → Int32} {k : Nat} (a : k ≠ 70) (b : k ≠ 71) : HT h gm gn k = h k := by
  unfold HT
  rw [ab_set_ne b, ab_set_ne a]
/-- rows hold the state -/
def AR (n : Nat) (lm ly : Nat → Nat) (gm gn : Nat → Int32) : Prop := ∀ t, t < TT n → gm t = nI (lm t) ∧ gn t = nI (ly t)
theorem AR.y {n : Nat} {lm ly : Nat → Nat} {gm gn : Nat → Int32} (h : AR n lm ly gm gn) {t to c : Nat} (hb : bet lm ly t to c = true) : AR n (lm2 lm ly t to c) (ly2 lm ly t to c) (upd gm t (nI (lm to + c))) (upd gn t (nI (ly to + 1))) := by
  intro u hu
  unfold lm2 ly2
  rw [if_pos hb, if_pos hb]
  unfold ud
  by_cases e : u = t
  · rw [if_pos e, if_pos e, e, pk_us, pk_us]; exact ⟨rfl, rfl⟩
  · rw [if_neg e, if_neg e, pk_un e, pk_un e]; exact h u hu
theorem AR.n {n : Nat} {lm ly : Nat → Nat} {gm gn : Nat → Int32} (h : AR n lm ly gm gn) {t to c : Nat} (hb : bet lm ly t to c = false) : AR n (lm2 lm ly t to c) (ly2 lm ly t to c) gm gn := by
  unfold lm2 ly2
  rw [if_neg (by rw [hb]; decide), if_neg (by rw [hb]; decide)]
  exact h
theorem AR.s {n : Nat} {lm ly : Nat → Nat} {gm gn : Nat → Int32} (h : AR n lm ly gm gn) {t to c : Nat} (hb : bet lm ly t to c = false) (v w : Int32) (hv : v = gm t) (hw : w = gn t) : AR n (lm2 lm ly t to c) (ly2 lm ly t to c) (upd gm t v) (upd gn t w) := by
  rw [fa_upd_same hv.symm, fa_upd_same hw.symm]
  exact h.n hb
theorem c_betters {m : Nat} {h : ab_H} {N : NS} {me mi ve la : Int32} {tl : Nat} {at_ wr : Int32} {fe : Nat} {kp : Bool} (hM : h 56 = oM (N_n N) (N_ns N) (N_ra N) (N_se N) me mi (nI (TT (N_n N))) ve la tl at_ wr fe kp) (ok : N_ok N) {fs ft : Nat → Int32} (h73 : h 73 = .inl (214560, fs)) (h74 : h 74 = .inl (214560, ft)) (hst : ST N fs ft) {gm gn : Nat → Int32} {lm ly : Nat → Nat} (ar : AR (N_n N) lm ly gm gn) {b : Bool} {q : Nat} (hq : q < 2 ^ 30) (hv : VS N b q lm ly) {k : Nat} (hk : k < 298 * TT (N_n N)) (he : ej N b (prm (N_n N) (k / 298)) (k % 298)) : ab_C Y_M_betters [.ref 56, .int (nI k), .int (ab_bl b)] m (HT h gm gn) (fun r m2 h2 => r = some (.int (ab_bl (bet lm ly (k / 298) (num (N_n N) (sto N (prm (N_n N) (k / 298)) (k % 298))) (cs N b (prm (N_n N) (k / 298)) (k % 298))))) ∧ m2 = m ∧ ∃ gm2 gn2 : Nat → Int32, h2 = HT h gm2 gn2 ∧ AR (N_n N) (lm2 lm ly (k / 298) (num (N_n N) (sto N (prm (N_n N) (k / 298)) (k % 298))) (cs N b (prm (N_n N) (k / 298)) (k % 298))) (ly2 lm ly (k / 298) (num (N_n N) (sto N (prm (N_n N) (k / 298)) (k % 298))) (cs N b (prm (N_n N) (k / 298)) (k % 298))) gm2 gn2) := by
  have hn6 := ok.1
  have hTT := (TT_le hn6).1
  have ht : k / 298 < TT (N_n N) := by omega
  have hj : k % 298 < 298 := Nat.mod_lt _ (by decide)
  have hx := Tb.pr_ hn6 ht
  have hs := sto_Tb ok hx he.1.2.1
  have n1 := (hs.nu hn6).1
  have n7 : (num (N_n N) (sto N (prm (N_n N) (k / 298)) (k % 298))) < 720 := by omega
  have ht7 : k / 298 < 720 := by omega
  have hc := cs_le ok hx he
  have e3 := ((hst _ ht _ hj).1 he.1)
  rw [show 298 * (k / 298) + k % 298 = k by omega] at e3
  have l1 := lm_le ok hv n1
  have l2 := lm_le ok hv ht
  have y1 := (hv _ n1).2.1
  have y2 := (hv _ ht).2.1
  refine ab_C.of (L := [some (.ref 56), some (.int (nI k)), some (.int (ab_bl b)), none, none, none, none, none]) rfl rfl (Nat.le_of_ble_eq_true rfl) (fun l => ?_)
  have cont1 : bet lm ly (k / 298) (num (N_n N) (sto N (prm (N_n N) (k / 298)) (k % 298))) (cs N b (prm (N_n N) (k / 298)) (k % 298)) = true → ab_W Y_M_betters none l (fun r m2 h2 => r = some (.int (ab_bl (bet lm ly (k / 298) (num (N_n N) (sto N (prm (N_n N) (k / 298)) (k % 298))) (cs N b (prm (N_n N) (k / 298)) (k % 298))))) ∧ m2 = m ∧ ∃ gm2 gn2 : Nat → Int32, h2 = HT h gm2 gn2 ∧ AR (N_n N) (lm2 lm ly (k / 298) (num (N_n N) (sto N (prm (N_n N) (k / 298)) (k % 298))) (cs N b (prm (N_n N) (k / 298)) (k % 298))) (ly2 lm ly (k / 298) (num (N_n N) (sto N (prm (N_n N) (k / 298)) (k % 298))) (cs N b (prm (N_n N) (k / 298)) (k % 298))) gm2 gn2) 109 [some (.ref 56), some (.int (nI k)), some (.int (ab_bl b)), some (.int (nI (k / 298))), some (.int (nI (num (N_n N) (sto N (prm (N_n N) (k / 298)) (k % 298))))), some (.int (nI (lm (num (N_n N) (sto N (prm (N_n N) (k / 298)) (k % 298))) + (cs N b (prm (N_n N) (k / 298)) (k % 298))))), some (.int (nI (ly (num (N_n N) (sto N (prm (N_n N) (k / 298)) (k % 298))) + 1))), some (.int (nI 1))] [] m (HT h gm gn) (0, 0) := by
    intro hb
    refine aw_aload_n d_M_betters_109 rfl ?_
    refine aw_get (k := 20) d_M_betters_110 cl_Model k_M_57 (by decide) hM rfl ?_
    refine aw_iload_n d_M_betters_113 rfl ?_
    refine aw_iload d_M_betters_114 rfl ?_
    refine aw_if_eq (tgt := 124) d_M_betters_116 (by decide) (fun c116 => ?_) (fun c116 => ?_)
    · first | exact absurd c116 (by decide) | exact absurd (by decide) c116
    · refine aw_iload d_M_betters_119 rfl ?_
      refine aw_goto (tgt := 130) d_M_betters_121 (by decide) ?_
      refine aw_iastoreN d_M_betters_130 rfl ht7 (by decide) ?_
      rw [ht_70]
      refine aw_aload_n d_M_betters_131 rfl ?_
      refine aw_get (k := 21) d_M_betters_132 cl_Model k_M_60 (by decide) hM rfl ?_
      refine aw_iload_n d_M_betters_135 rfl ?_
      refine aw_iload d_M_betters_136 rfl ?_
      refine aw_if_eq (tgt := 146) d_M_betters_138 (by decide) (fun c138 => ?_) (fun c138 => ?_)
      · first | exact absurd c138 (by decide) | exact absurd (by decide) c138
      · refine aw_iload d_M_betters_141 rfl ?_
        refine aw_goto (tgt := 152) d_M_betters_143 (by decide) ?_
        refine aw_iastoreN d_M_betters_152 rfl ht7 (by decide) ?_
        rw [ht_71]
        refine aw_iload d_M_betters_153 rfl ?_
        refine aw_ireturn d_M_betters_155 rfl (by decide) ?_
        refine ⟨by rw [hb]; rfl, rfl, _, _, rfl, ?_⟩
        exact ar.y hb
  have cont0 : bet lm ly (k / 298) (num (N_n N) (sto N (prm (N_n N) (k / 298)) (k % 298))) (cs N b (prm (N_n N) (k / 298)) (k % 298)) = false → ab_W Y_M_betters none l (fun r m2 h2 => r = some (.int (ab_bl (bet lm ly (k / 298) (num (N_n N) (sto N (prm (N_n N) (k / 298)) (k % 298))) (cs N b (prm (N_n N) (k / 298)) (k % 298))))) ∧ m2 = m ∧ ∃ gm2 gn2 : Nat → Int32, h2 = HT h gm2 gn2 ∧ AR (N_n N) (lm2 lm ly (k / 298) (num (N_n N) (sto N (prm (N_n N) (k / 298)) (k % 298))) (cs N b (prm (N_n N) (k / 298)) (k % 298))) (ly2 lm ly (k / 298) (num (N_n N) (sto N (prm (N_n N) (k / 298)) (k % 298))) (cs N b (prm (N_n N) (k / 298)) (k % 298))) gm2 gn2) 109 [some (.ref 56), some (.int (nI k)), some (.int (ab_bl b)), some (.int (nI (k / 298))), some (.int (nI (num (N_n N) (sto N (prm (N_n N) (k / 298)) (k % 298))))), some (.int (nI (lm (num (N_n N) (sto N (prm (N_n N) (k / 298)) (k % 298))) + (cs N b (prm (N_n N) (k / 298)) (k % 298))))), some (.int (nI (ly (num (N_n N) (sto N (prm (N_n N) (k / 298)) (k % 298))) + 1))), some (.int (nI 0))] [] m (HT h gm gn) (0, 0) := by
    intro hb
    refine aw_aload_n d_M_betters_109 rfl ?_
    refine aw_get (k := 20) d_M_betters_110 cl_Model k_M_57 (by decide) hM rfl ?_
    refine aw_iload_n d_M_betters_113 rfl ?_
    refine aw_iload d_M_betters_114 rfl ?_
    refine aw_if_eq (tgt := 124) d_M_betters_116 (by decide) (fun c116 => ?_) (fun c116 => ?_)
    · refine aw_aload_n d_M_betters_124 rfl ?_
      refine aw_get (k := 20) d_M_betters_125 cl_Model k_M_57 (by decide) hM rfl ?_
      refine aw_iload_n d_M_betters_128 rfl ?_
      refine aw_ialoadN d_M_betters_129 rfl ht7 (by decide) ?_
      refine aw_iastoreN d_M_betters_130 rfl ht7 (by decide) ?_
      rw [ht_70]
      refine aw_aload_n d_M_betters_131 rfl ?_
      refine aw_get (k := 21) d_M_betters_132 cl_Model k_M_60 (by decide) hM rfl ?_
      refine aw_iload_n d_M_betters_135 rfl ?_
      refine aw_iload d_M_betters_136 rfl ?_
      refine aw_if_eq (tgt := 146) d_M_betters_138 (by decide) (fun c138 => ?_) (fun c138 => ?_)
      · refine aw_aload_n d_M_betters_146 rfl ?_
        refine aw_get (k := 21) d_M_betters_147 cl_Model k_M_60 (by decide) hM rfl ?_
        refine aw_iload_n d_M_betters_150 rfl ?_
        refine aw_ialoadN d_M_betters_151 rfl ht7 (by decide) ?_
        refine aw_iastoreN d_M_betters_152 rfl ht7 (by decide) ?_
        rw [ht_71]
        refine aw_iload d_M_betters_153 rfl ?_
        refine aw_ireturn d_M_betters_155 rfl (by decide) ?_
        refine ⟨by rw [hb]; rfl, rfl, _, _, rfl, ?_⟩
        exact ar.s hb _ _ rfl rfl
      · first | exact absurd c138 (by decide) | exact absurd (by decide) c138
    · first | exact absurd c116 (by decide) | exact absurd (by decide) c116
  refine aw_iload_n d_M_betters_0 rfl ?_
  refine aw_sipush (v := nI 298) d_M_betters_1 (by decide) ?_
  refine aw_idiv d_M_betters_4 (by decide) ?_
  rw [dv (by omega) (by decide) (by decide)]
  refine aw_istore_n (L' := [some (.ref 56), some (.int (nI k)), some (.int (ab_bl b)), some (.int (nI (k / 298))), none, none, none, none]) d_M_betters_5 ⟨by decide, rfl⟩ rfl ?_
  refine aw_aload_n d_M_betters_6 rfl ?_
  refine aw_get (k := 23) d_M_betters_7 cl_Model k_M_67 (by decide) hM rfl ?_
  refine aw_iload_n d_M_betters_10 rfl ?_
  refine aw_ialoadN d_M_betters_11 h73 (by omega) (by decide) ?_
  rw [e3.1]
  refine aw_istore (L' := [some (.ref 56), some (.int (nI k)), some (.int (ab_bl b)), some (.int (nI (k / 298))), some (.int (nI (num (N_n N) (sto N (prm (N_n N) (k / 298)) (k % 298))))), none, none, none]) d_M_betters_12 ⟨by decide, rfl⟩ rfl ?_
  refine aw_aload_n d_M_betters_14 rfl ?_
  refine aw_get (k := 20) d_M_betters_15 cl_Model k_M_57 (by decide) hM rfl ?_
  refine aw_iload d_M_betters_18 rfl ?_
  refine aw_ialoadN d_M_betters_20 rfl n7 (by decide) ?_
  rw [(ar _ n1).1]
  refine aw_ldc (v := nI 1000000000) d_M_betters_21 k_M_242 ?_
  refine aw_icmp_eq (tgt := 32) d_M_betters_23 (by decide) (fun c23 => ?_) (fun c23 => ?_)
  · refine aw_iconst (v := nI 0) d_M_betters_32 (by decide) ?_
    refine aw_ireturn d_M_betters_33 rfl (by decide) ?_
    have hb : bet lm ly (k / 298) (num (N_n N) (sto N (prm (N_n N) (k / 298)) (k % 298))) (cs N b (prm (N_n N) (k / 298)) (k % 298)) = false := Bool.eq_false_iff.mpr (fun z => by
      have z := (bet_iff.mp z).1
      first
        | exact z.1 ((nI_eq (by omega) (by decide)).mp c23)
        | exact z.2 ((nI_eq (by omega) (by omega)).mp c29))
    exact ⟨by rw [hb]; rfl, rfl, gm, gn, rfl, ar.n hb⟩
  · refine aw_iload d_M_betters_26 rfl ?_
    refine aw_iload_n d_M_betters_28 rfl ?_
    refine aw_icmp_ne (tgt := 34) d_M_betters_29 (by decide) (fun c29 => ?_) (fun c29 => ?_)
    · refine aw_aload_n d_M_betters_34 rfl ?_
      refine aw_get (k := 20) d_M_betters_35 cl_Model k_M_57 (by decide) hM rfl ?_
      refine aw_iload d_M_betters_38 rfl ?_
      refine aw_ialoadN d_M_betters_40 rfl n7 (by decide) ?_
      rw [(ar _ n1).1]
      refine aw_iload_n d_M_betters_41 rfl ?_
      refine aw_if_eq (tgt := 49) d_M_betters_42 (by decide) (fun c42 => ?_) (fun c42 => ?_)
      · refine aw_aload_n d_M_betters_49 rfl ?_
        refine aw_get (k := 24) d_M_betters_50 cl_Model k_M_70 (by decide) hM rfl ?_
        refine aw_iload_n d_M_betters_53 rfl ?_
        refine aw_ialoadN d_M_betters_54 h74 (by omega) (by decide) ?_
        refine aw_iadd d_M_betters_55 ?_
        rw [show ((nI (lm (num (N_n N) (sto N (prm (N_n N) (k / 298)) (k % 298))))) + (ft k)) = nI (lm (num (N_n N) (sto N (prm (N_n N) (k / 298)) (k % 298))) + (cs N b (prm (N_n N) (k / 298)) (k % 298))) from ?_]
        rotate_left
        · unfold cs
          first
            | (rw [ab_bl_0.mp c42, e3.2, nI_add]; rfl)
            | (rw [ab_bl_1.mp c42, nI_add]; rfl)
        refine aw_istore (L' := [some (.ref 56), some (.int (nI k)), some (.int (ab_bl b)), some (.int (nI (k / 298))), some (.int (nI (num (N_n N) (sto N (prm (N_n N) (k / 298)) (k % 298))))), some (.int (nI (lm (num (N_n N) (sto N (prm (N_n N) (k / 298)) (k % 298))) + (cs N b (prm (N_n N) (k / 298)) (k % 298))))), none, none]) d_M_betters_56 ⟨by decide, rfl⟩ rfl ?_
        refine aw_aload_n d_M_betters_58 rfl ?_
        refine aw_get (k := 21) d_M_betters_59 cl_Model k_M_60 (by decide) hM rfl ?_
        refine aw_iload d_M_betters_62 rfl ?_
        refine aw_ialoadN d_M_betters_64 rfl n7 (by decide) ?_
        rw [(ar _ n1).2]
        refine aw_iconst (v := nI 1) d_M_betters_65 (by decide) ?_
        refine aw_iadd d_M_betters_66 ?_
        rw [nI_add]
        refine aw_istore (L' := [some (.ref 56), some (.int (nI k)), some (.int (ab_bl b)), some (.int (nI (k / 298))), some (.int (nI (num (N_n N) (sto N (prm (N_n N) (k / 298)) (k % 298))))), some (.int (nI (lm (num (N_n N) (sto N (prm (N_n N) (k / 298)) (k % 298))) + (cs N b (prm (N_n N) (k / 298)) (k % 298))))), some (.int (nI (ly (num (N_n N) (sto N (prm (N_n N) (k / 298)) (k % 298))) + 1))), none]) d_M_betters_67 ⟨by decide, rfl⟩ rfl ?_
        refine aw_iload d_M_betters_69 rfl ?_
        refine aw_aload_n d_M_betters_71 rfl ?_
        refine aw_get (k := 20) d_M_betters_72 cl_Model k_M_57 (by decide) hM rfl ?_
        refine aw_iload_n d_M_betters_75 rfl ?_
        refine aw_ialoadN d_M_betters_76 rfl ht7 (by decide) ?_
        rw [(ar _ ht).1]
        refine aw_icmp_lt (tgt := 102) d_M_betters_77 (by decide) (fun c77 => ?_) (fun c77 => ?_)
        · refine aw_iconst (v := nI 1) d_M_betters_102 (by decide) ?_
          refine aw_goto (tgt := 107) d_M_betters_103 (by decide) ?_
          refine aw_istore (L' := [some (.ref 56), some (.int (nI k)), some (.int (ab_bl b)), some (.int (nI (k / 298))), some (.int (nI (num (N_n N) (sto N (prm (N_n N) (k / 298)) (k % 298))))), some (.int (nI (lm (num (N_n N) (sto N (prm (N_n N) (k / 298)) (k % 298))) + (cs N b (prm (N_n N) (k / 298)) (k % 298))))), some (.int (nI (ly (num (N_n N) (sto N (prm (N_n N) (k / 298)) (k % 298))) + 1))), some (.int (nI 1))]) d_M_betters_107 ⟨by decide, rfl⟩ rfl ?_
          have ne1 : ¬ lm (num (N_n N) (sto N (prm (N_n N) (k / 298)) (k % 298))) = 1000000000 := fun z => c23 (by rw [z])
          have ne2 : ¬ (num (N_n N) (sto N (prm (N_n N) (k / 298)) (k % 298))) = k / 298 := fun z => c29 (by rw [z])
          have nE : lm (num (N_n N) (sto N (prm (N_n N) (k / 298)) (k % 298))) + (cs N b (prm (N_n N) (k / 298)) (k % 298)) < 2 ^ 31 := by omega
          first
            | exact cont1 (bet_iff.mpr ⟨⟨ne1, ne2⟩, Or.inl ((nI_ltI nE (by omega)).mp c77)⟩)
            | exact cont1 (bet_iff.mpr ⟨⟨ne1, ne2⟩, Or.inr ⟨(nI_eq nE (by omega)).mp c88, Nat.not_le.mp (fun z => c99 (nI_le z (by omega)))⟩⟩)
            | exact cont0 (Bool.eq_false_iff.mpr (fun z => ((bet_iff.mp z).2).elim (fun z => c77 (nI_lt z (by omega))) (fun z => c88 (by rw [z.1]))))
            | exact cont0 (Bool.eq_false_iff.mpr (fun z => ((bet_iff.mp z).2).elim (fun z => c77 (nI_lt z (by omega))) (fun z => absurd c99 (nI_ge z.2 (by omega)))))
        · refine aw_iload d_M_betters_80 rfl ?_
          refine aw_aload_n d_M_betters_82 rfl ?_
          refine aw_get (k := 20) d_M_betters_83 cl_Model k_M_57 (by decide) hM rfl ?_
          refine aw_iload_n d_M_betters_86 rfl ?_
          refine aw_ialoadN d_M_betters_87 rfl ht7 (by decide) ?_
          rw [(ar _ ht).1]
          refine aw_icmp_ne (tgt := 106) d_M_betters_88 (by decide) (fun c88 => ?_) (fun c88 => ?_)
          · refine aw_iconst (v := nI 0) d_M_betters_106 (by decide) ?_
            refine aw_istore (L' := [some (.ref 56), some (.int (nI k)), some (.int (ab_bl b)), some (.int (nI (k / 298))), some (.int (nI (num (N_n N) (sto N (prm (N_n N) (k / 298)) (k % 298))))), some (.int (nI (lm (num (N_n N) (sto N (prm (N_n N) (k / 298)) (k % 298))) + (cs N b (prm (N_n N) (k / 298)) (k % 298))))), some (.int (nI (ly (num (N_n N) (sto N (prm (N_n N) (k / 298)) (k % 298))) + 1))), some (.int (nI 0))]) d_M_betters_107 ⟨by decide, rfl⟩ rfl ?_
            have ne1 : ¬ lm (num (N_n N) (sto N (prm (N_n N) (k / 298)) (k % 298))) = 1000000000 := fun z => c23 (by rw [z])
            have ne2 : ¬ (num (N_n N) (sto N (prm (N_n N) (k / 298)) (k % 298))) = k / 298 := fun z => c29 (by rw [z])
            have nE : lm (num (N_n N) (sto N (prm (N_n N) (k / 298)) (k % 298))) + (cs N b (prm (N_n N) (k / 298)) (k % 298)) < 2 ^ 31 := by omega
            first
              | exact cont1 (bet_iff.mpr ⟨⟨ne1, ne2⟩, Or.inl ((nI_ltI nE (by omega)).mp c77)⟩)
              | exact cont1 (bet_iff.mpr ⟨⟨ne1, ne2⟩, Or.inr ⟨(nI_eq nE (by omega)).mp c88, Nat.not_le.mp (fun z => c99 (nI_le z (by omega)))⟩⟩)
              | exact cont0 (Bool.eq_false_iff.mpr (fun z => ((bet_iff.mp z).2).elim (fun z => c77 (nI_lt z (by omega))) (fun z => c88 (by rw [z.1]))))
              | exact cont0 (Bool.eq_false_iff.mpr (fun z => ((bet_iff.mp z).2).elim (fun z => c77 (nI_lt z (by omega))) (fun z => absurd c99 (nI_ge z.2 (by omega)))))
          · refine aw_iload d_M_betters_91 rfl ?_
            refine aw_aload_n d_M_betters_93 rfl ?_
            refine aw_get (k := 21) d_M_betters_94 cl_Model k_M_60 (by decide) hM rfl ?_
            refine aw_iload_n d_M_betters_97 rfl ?_
            refine aw_ialoadN d_M_betters_98 rfl ht7 (by decide) ?_
            rw [(ar _ ht).2]
            refine aw_icmp_ge (tgt := 106) d_M_betters_99 (by decide) (fun c99 => ?_) (fun c99 => ?_)
            · refine aw_iconst (v := nI 0) d_M_betters_106 (by decide) ?_
              refine aw_istore (L' := [some (.ref 56), some (.int (nI k)), some (.int (ab_bl b)), some (.int (nI (k / 298))), some (.int (nI (num (N_n N) (sto N (prm (N_n N) (k / 298)) (k % 298))))), some (.int (nI (lm (num (N_n N) (sto N (prm (N_n N) (k / 298)) (k % 298))) + (cs N b (prm (N_n N) (k / 298)) (k % 298))))), some (.int (nI (ly (num (N_n N) (sto N (prm (N_n N) (k / 298)) (k % 298))) + 1))), some (.int (nI 0))]) d_M_betters_107 ⟨by decide, rfl⟩ rfl ?_
              have ne1 : ¬ lm (num (N_n N) (sto N (prm (N_n N) (k / 298)) (k % 298))) = 1000000000 := fun z => c23 (by rw [z])
              have ne2 : ¬ (num (N_n N) (sto N (prm (N_n N) (k / 298)) (k % 298))) = k / 298 := fun z => c29 (by rw [z])
              have nE : lm (num (N_n N) (sto N (prm (N_n N) (k / 298)) (k % 298))) + (cs N b (prm (N_n N) (k / 298)) (k % 298)) < 2 ^ 31 := by omega
              first
                | exact cont1 (bet_iff.mpr ⟨⟨ne1, ne2⟩, Or.inl ((nI_ltI nE (by omega)).mp c77)⟩)
                | exact cont1 (bet_iff.mpr ⟨⟨ne1, ne2⟩, Or.inr ⟨(nI_eq nE (by omega)).mp c88, Nat.not_le.mp (fun z => c99 (nI_le z (by omega)))⟩⟩)
                | exact cont0 (Bool.eq_false_iff.mpr (fun z => ((bet_iff.mp z).2).elim (fun z => c77 (nI_lt z (by omega))) (fun z => c88 (by rw [z.1]))))
                | exact cont0 (Bool.eq_false_iff.mpr (fun z => ((bet_iff.mp z).2).elim (fun z => c77 (nI_lt z (by omega))) (fun z => absurd c99 (nI_ge z.2 (by omega)))))
            · refine aw_iconst (v := nI 1) d_M_betters_102 (by decide) ?_
              refine aw_goto (tgt := 107) d_M_betters_103 (by decide) ?_
              refine aw_istore (L' := [some (.ref 56), some (.int (nI k)), some (.int (ab_bl b)), some (.int (nI (k / 298))), some (.int (nI (num (N_n N) (sto N (prm (N_n N) (k / 298)) (k % 298))))), some (.int (nI (lm (num (N_n N) (sto N (prm (N_n N) (k / 298)) (k % 298))) + (cs N b (prm (N_n N) (k / 298)) (k % 298))))), some (.int (nI (ly (num (N_n N) (sto N (prm (N_n N) (k / 298)) (k % 298))) + 1))), some (.int (nI 1))]) d_M_betters_107 ⟨by decide, rfl⟩ rfl ?_
              have ne1 : ¬ lm (num (N_n N) (sto N (prm (N_n N) (k / 298)) (k % 298))) = 1000000000 := fun z => c23 (by rw [z])
              have ne2 : ¬ (num (N_n N) (sto N (prm (N_n N) (k / 298)) (k % 298))) = k / 298 := fun z => c29 (by rw [z])
              have nE : lm (num (N_n N) (sto N (prm (N_n N) (k / 298)) (k % 298))) + (cs N b (prm (N_n N) (k / 298)) (k % 298)) < 2 ^ 31 := by omega
              first
                | exact cont1 (bet_iff.mpr ⟨⟨ne1, ne2⟩, Or.inl ((nI_ltI nE (by omega)).mp c77)⟩)
                | exact cont1 (bet_iff.mpr ⟨⟨ne1, ne2⟩, Or.inr ⟨(nI_eq nE (by omega)).mp c88, Nat.not_le.mp (fun z => c99 (nI_le z (by omega)))⟩⟩)
                | exact cont0 (Bool.eq_false_iff.mpr (fun z => ((bet_iff.mp z).2).elim (fun z => c77 (nI_lt z (by omega))) (fun z => c88 (by rw [z.1]))))
                | exact cont0 (Bool.eq_false_iff.mpr (fun z => ((bet_iff.mp z).2).elim (fun z => c77 (nI_lt z (by omega))) (fun z => absurd c99 (nI_ge z.2 (by omega)))))
      · refine aw_iconst (v := nI 1) d_M_betters_45 (by decide) ?_
        refine aw_goto (tgt := 55) d_M_betters_46 (by decide) ?_
        refine aw_iadd d_M_betters_55 ?_
        rw [show ((nI (lm (num (N_n N) (sto N (prm (N_n N) (k / 298)) (k % 298))))) + (nI 1)) = nI (lm (num (N_n N) (sto N (prm (N_n N) (k / 298)) (k % 298))) + (cs N b (prm (N_n N) (k / 298)) (k % 298))) from ?_]
        rotate_left
        · unfold cs
          first
            | (rw [ab_bl_0.mp c42, e3.2, nI_add]; rfl)
            | (rw [ab_bl_1.mp c42, nI_add]; rfl)
        refine aw_istore (L' := [some (.ref 56), some (.int (nI k)), some (.int (ab_bl b)), some (.int (nI (k / 298))), some (.int (nI (num (N_n N) (sto N (prm (N_n N) (k / 298)) (k % 298))))), some (.int (nI (lm (num (N_n N) (sto N (prm (N_n N) (k / 298)) (k % 298))) + (cs N b (prm (N_n N) (k / 298)) (k % 298))))), none, none]) d_M_betters_56 ⟨by decide, rfl⟩ rfl ?_
        refine aw_aload_n d_M_betters_58 rfl ?_
        refine aw_get (k := 21) d_M_betters_59 cl_Model k_M_60 (by decide) hM rfl ?_
        refine aw_iload d_M_betters_62 rfl ?_
        refine aw_ialoadN d_M_betters_64 rfl n7 (by decide) ?_
        rw [(ar _ n1).2]
        refine aw_iconst (v := nI 1) d_M_betters_65 (by decide) ?_
        refine aw_iadd d_M_betters_66 ?_
        rw [nI_add]
        refine aw_istore (L' := [some (.ref 56), some (.int (nI k)), some (.int (ab_bl b)), some (.int (nI (k / 298))), some (.int (nI (num (N_n N) (sto N (prm (N_n N) (k / 298)) (k % 298))))), some (.int (nI (lm (num (N_n N) (sto N (prm (N_n N) (k / 298)) (k % 298))) + (cs N b (prm (N_n N) (k / 298)) (k % 298))))), some (.int (nI (ly (num (N_n N) (sto N (prm (N_n N) (k / 298)) (k % 298))) + 1))), none]) d_M_betters_67 ⟨by decide, rfl⟩ rfl ?_
        refine aw_iload d_M_betters_69 rfl ?_
        refine aw_aload_n d_M_betters_71 rfl ?_
        refine aw_get (k := 20) d_M_betters_72 cl_Model k_M_57 (by decide) hM rfl ?_
        refine aw_iload_n d_M_betters_75 rfl ?_
        refine aw_ialoadN d_M_betters_76 rfl ht7 (by decide) ?_
        rw [(ar _ ht).1]
        refine aw_icmp_lt (tgt := 102) d_M_betters_77 (by decide) (fun c77 => ?_) (fun c77 => ?_)
        · refine aw_iconst (v := nI 1) d_M_betters_102 (by decide) ?_
          refine aw_goto (tgt := 107) d_M_betters_103 (by decide) ?_
          refine aw_istore (L' := [some (.ref 56), some (.int (nI k)), some (.int (ab_bl b)), some (.int (nI (k / 298))), some (.int (nI (num (N_n N) (sto N (prm (N_n N) (k / 298)) (k % 298))))), some (.int (nI (lm (num (N_n N) (sto N (prm (N_n N) (k / 298)) (k % 298))) + (cs N b (prm (N_n N) (k / 298)) (k % 298))))), some (.int (nI (ly (num (N_n N) (sto N (prm (N_n N) (k / 298)) (k % 298))) + 1))), some (.int (nI 1))]) d_M_betters_107 ⟨by decide, rfl⟩ rfl ?_
          have ne1 : ¬ lm (num (N_n N) (sto N (prm (N_n N) (k / 298)) (k % 298))) = 1000000000 := fun z => c23 (by rw [z])
          have ne2 : ¬ (num (N_n N) (sto N (prm (N_n N) (k / 298)) (k % 298))) = k / 298 := fun z => c29 (by rw [z])
          have nE : lm (num (N_n N) (sto N (prm (N_n N) (k / 298)) (k % 298))) + (cs N b (prm (N_n N) (k / 298)) (k % 298)) < 2 ^ 31 := by omega
          first
            | exact cont1 (bet_iff.mpr ⟨⟨ne1, ne2⟩, Or.inl ((nI_ltI nE (by omega)).mp c77)⟩)
            | exact cont1 (bet_iff.mpr ⟨⟨ne1, ne2⟩, Or.inr ⟨(nI_eq nE (by omega)).mp c88, Nat.not_le.mp (fun z => c99 (nI_le z (by omega)))⟩⟩)
            | exact cont0 (Bool.eq_false_iff.mpr (fun z => ((bet_iff.mp z).2).elim (fun z => c77 (nI_lt z (by omega))) (fun z => c88 (by rw [z.1]))))
            | exact cont0 (Bool.eq_false_iff.mpr (fun z => ((bet_iff.mp z).2).elim (fun z => c77 (nI_lt z (by omega))) (fun z => absurd c99 (nI_ge z.2 (by omega)))))
        · refine aw_iload d_M_betters_80 rfl ?_
          refine aw_aload_n d_M_betters_82 rfl ?_
          refine aw_get (k := 20) d_M_betters_83 cl_Model k_M_57 (by decide) hM rfl ?_
          refine aw_iload_n d_M_betters_86 rfl ?_
          refine aw_ialoadN d_M_betters_87 rfl ht7 (by decide) ?_
          rw [(ar _ ht).1]
          refine aw_icmp_ne (tgt := 106) d_M_betters_88 (by decide) (fun c88 => ?_) (fun c88 => ?_)
          · refine aw_iconst (v := nI 0) d_M_betters_106 (by decide) ?_
            refine aw_istore (L' := [some (.ref 56), some (.int (nI k)), some (.int (ab_bl b)), some (.int (nI (k / 298))), some (.int (nI (num (N_n N) (sto N (prm (N_n N) (k / 298)) (k % 298))))), some (.int (nI (lm (num (N_n N) (sto N (prm (N_n N) (k / 298)) (k % 298))) + (cs N b (prm (N_n N) (k / 298)) (k % 298))))), some (.int (nI (ly (num (N_n N) (sto N (prm (N_n N) (k / 298)) (k % 298))) + 1))), some (.int (nI 0))]) d_M_betters_107 ⟨by decide, rfl⟩ rfl ?_
            have ne1 : ¬ lm (num (N_n N) (sto N (prm (N_n N) (k / 298)) (k % 298))) = 1000000000 := fun z => c23 (by rw [z])
            have ne2 : ¬ (num (N_n N) (sto N (prm (N_n N) (k / 298)) (k % 298))) = k / 298 := fun z => c29 (by rw [z])
            have nE : lm (num (N_n N) (sto N (prm (N_n N) (k / 298)) (k % 298))) + (cs N b (prm (N_n N) (k / 298)) (k % 298)) < 2 ^ 31 := by omega
            first
              | exact cont1 (bet_iff.mpr ⟨⟨ne1, ne2⟩, Or.inl ((nI_ltI nE (by omega)).mp c77)⟩)
              | exact cont1 (bet_iff.mpr ⟨⟨ne1, ne2⟩, Or.inr ⟨(nI_eq nE (by omega)).mp c88, Nat.not_le.mp (fun z => c99 (nI_le z (by omega)))⟩⟩)
              | exact cont0 (Bool.eq_false_iff.mpr (fun z => ((bet_iff.mp z).2).elim (fun z => c77 (nI_lt z (by omega))) (fun z => c88 (by rw [z.1]))))
              | exact cont0 (Bool.eq_false_iff.mpr (fun z => ((bet_iff.mp z).2).elim (fun z => c77 (nI_lt z (by omega))) (fun z => absurd c99 (nI_ge z.2 (by omega)))))
          · refine aw_iload d_M_betters_91 rfl ?_
            refine aw_aload_n d_M_betters_93 rfl ?_
            refine aw_get (k := 21) d_M_betters_94 cl_Model k_M_60 (by decide) hM rfl ?_
            refine aw_iload_n d_M_betters_97 rfl ?_
            refine aw_ialoadN d_M_betters_98 rfl ht7 (by decide) ?_
            rw [(ar _ ht).2]
            refine aw_icmp_ge (tgt := 106) d_M_betters_99 (by decide) (fun c99 => ?_) (fun c99 => ?_)
            · refine aw_iconst (v := nI 0) d_M_betters_106 (by decide) ?_
              refine aw_istore (L' := [some (.ref 56), some (.int (nI k)), some (.int (ab_bl b)), some (.int (nI (k / 298))), some (.int (nI (num (N_n N) (sto N (prm (N_n N) (k / 298)) (k % 298))))), some (.int (nI (lm (num (N_n N) (sto N (prm (N_n N) (k / 298)) (k % 298))) + (cs N b (prm (N_n N) (k / 298)) (k % 298))))), some (.int (nI (ly (num (N_n N) (sto N (prm (N_n N) (k / 298)) (k % 298))) + 1))), some (.int (nI 0))]) d_M_betters_107 ⟨by decide, rfl⟩ rfl ?_
              have ne1 : ¬ lm (num (N_n N) (sto N (prm (N_n N) (k / 298)) (k % 298))) = 1000000000 := fun z => c23 (by rw [z])
              have ne2 : ¬ (num (N_n N) (sto N (prm (N_n N) (k / 298)) (k % 298))) = k / 298 := fun z => c29 (by rw [z])
              have nE : lm (num (N_n N) (sto N (prm (N_n N) (k / 298)) (k % 298))) + (cs N b (prm (N_n N) (k / 298)) (k % 298)) < 2 ^ 31 := by omega
              first
                | exact cont1 (bet_iff.mpr ⟨⟨ne1, ne2⟩, Or.inl ((nI_ltI nE (by omega)).mp c77)⟩)
                | exact cont1 (bet_iff.mpr ⟨⟨ne1, ne2⟩, Or.inr ⟨(nI_eq nE (by omega)).mp c88, Nat.not_le.mp (fun z => c99 (nI_le z (by omega)))⟩⟩)
                | exact cont0 (Bool.eq_false_iff.mpr (fun z => ((bet_iff.mp z).2).elim (fun z => c77 (nI_lt z (by omega))) (fun z => c88 (by rw [z.1]))))
                | exact cont0 (Bool.eq_false_iff.mpr (fun z => ((bet_iff.mp z).2).elim (fun z => c77 (nI_lt z (by omega))) (fun z => absurd c99 (nI_ge z.2 (by omega)))))
            · refine aw_iconst (v := nI 1) d_M_betters_102 (by decide) ?_
              refine aw_goto (tgt := 107) d_M_betters_103 (by decide) ?_
              refine aw_istore (L' := [some (.ref 56), some (.int (nI k)), some (.int (ab_bl b)), some (.int (nI (k / 298))), some (.int (nI (num (N_n N) (sto N (prm (N_n N) (k / 298)) (k % 298))))), some (.int (nI (lm (num (N_n N) (sto N (prm (N_n N) (k / 298)) (k % 298))) + (cs N b (prm (N_n N) (k / 298)) (k % 298))))), some (.int (nI (ly (num (N_n N) (sto N (prm (N_n N) (k / 298)) (k % 298))) + 1))), some (.int (nI 1))]) d_M_betters_107 ⟨by decide, rfl⟩ rfl ?_
              have ne1 : ¬ lm (num (N_n N) (sto N (prm (N_n N) (k / 298)) (k % 298))) = 1000000000 := fun z => c23 (by rw [z])
              have ne2 : ¬ (num (N_n N) (sto N (prm (N_n N) (k / 298)) (k % 298))) = k / 298 := fun z => c29 (by rw [z])
              have nE : lm (num (N_n N) (sto N (prm (N_n N) (k / 298)) (k % 298))) + (cs N b (prm (N_n N) (k / 298)) (k % 298)) < 2 ^ 31 := by omega
              first
                | exact cont1 (bet_iff.mpr ⟨⟨ne1, ne2⟩, Or.inl ((nI_ltI nE (by omega)).mp c77)⟩)
                | exact cont1 (bet_iff.mpr ⟨⟨ne1, ne2⟩, Or.inr ⟨(nI_eq nE (by omega)).mp c88, Nat.not_le.mp (fun z => c99 (nI_le z (by omega)))⟩⟩)
                | exact cont0 (Bool.eq_false_iff.mpr (fun z => ((bet_iff.mp z).2).elim (fun z => c77 (nI_lt z (by omega))) (fun z => c88 (by rw [z.1]))))
                | exact cont0 (Bool.eq_false_iff.mpr (fun z => ((bet_iff.mp z).2).elim (fun z => c77 (nI_lt z (by omega))) (fun z => absurd c99 (nI_ge z.2 (by omega)))))
    · refine aw_iconst (v := nI 0) d_M_betters_32 (by decide) ?_
      refine aw_ireturn d_M_betters_33 rfl (by decide) ?_
      have hb : bet lm ly (k / 298) (num (N_n N) (sto N (prm (N_n N) (k / 298)) (k % 298))) (cs N b (prm (N_n N) (k / 298)) (k % 298)) = false := Bool.eq_false_iff.mpr (fun z => by
        have z := (bet_iff.mp z).1
        first
          | exact z.1 ((nI_eq (by omega) (by decide)).mp c23)
          | exact z.2 ((nI_eq (by omega) (by omega)).mp c29))
      exact ⟨by rw [hb]; rfl, rfl, gm, gn, rfl, ar.n hb⟩
theorem c_settles {m : Nat} {h : ab_H} {N : NS} {me mi tab ve la : Int32} {tl : Nat} {at_ wr : Int32} {fe : Nat} {kp : Bool} (hM : h 56 = oM (N_n N) (N_ns N) (N_ra N) (N_se N) me mi tab ve la tl at_ wr fe kp) (hP : PMn h N) (ok : N_ok N) {d1 d2 d3 d7 ds dt dm dn : Nat → Int32} (h67 : h 67 = .inl (6, d1)) (h68 : h 68 = .inl (4320, d2)) (h69 : h 69 = .inl (46656, d3)) (h72 : h 72 = .inl (6, d7)) (h73 : h 73 = .inl (214560, ds)) (h74 : h 74 = .inl (214560, dt)) (h70 : h 70 = .inl (720, dm)) (h71 : h 71 = .inl (720, dn)) (hst : la = ve → ST N ds dt) (b : Bool) : ab_C Y_M_settles [.ref 56, .int (ab_bl b)] m h (fun r m2 h2 => r = none ∧ m2 = m ∧ ∃ g1 g2 g3 g7 fs ft gm gn : Nat → Int32, h2 = HT (HV (HL h (oM (N_n N) (N_ns N) (N_ra N) (N_se N) me mi (nI (TT (N_n N))) ve ve tl at_ wr fe kp) g1 g2 g3) g7 fs ft) gm gn ∧ LY (N_n N) (6 ^ N_n N) g2 g3 ∧ ST N fs ft ∧ ∃ lm ly : Nat → Nat, AR (N_n N) lm ly gm gn ∧ SE N b lm ly) := by
  have hP0 := hP
  obtain ⟨⟨gx, hx, ax⟩, ⟨gy, hy, ay⟩, ⟨gm, hm, am⟩, ⟨gh, hh, ah⟩, ⟨gl, hl, al⟩, ⟨gw, hw, aw⟩, ⟨ga, ha0, aa⟩, ⟨gi, hi, ai⟩, ⟨gj, hj0, aj⟩, ⟨gf, hf0, af⟩⟩ := id hP
  have hn6 : N_n N ≤ 6 := ok.1
  have hns : N_ns N ≤ 4 := ok.2.2.2.2.2.2.2.2.1
  have hw6 := ok.w6
  have aw : ∀ k, k < N_n N → gw k = nI (N_w N / 2 ^ k % 2) := aw
  have bx := ok.2.2.2.2.2.1
  have bi := ok.2.2.2.2.2.2.2.2.2.1
  have hTT := (TT_le hn6).1
  refine ab_C.of (L := [some (.ref 56), some (.int (ab_bl b)), none, none]) rfl rfl (Nat.le_of_ble_eq_true rfl) (fun l => ?_)
  refine aw_aload_n d_M_settles_0 rfl ?_
  refine aw_v0 (a := 56) d_M_settles_1 k_M_239 ok_M_laysSteps rfl ⟨rfl, rfl⟩ cl_Model hM (c_laysSteps hM hP0 ok h67 h68 h69 h72 h73 h74 hst) rfl rfl (Nat.le_of_ble_eq_true rfl) (fun r m2 h2 z => ?_)
  obtain ⟨rfl, em, g1, g2, g3, g7, fs, ft, rfl, hly, hst⟩ := z
  rw [em]
  show ab_W _ _ _ _ 4 _ [] _ _ _
  refine aw_iconst (v := nI 0) d_M_settles_4 (by decide) ?_
  refine aw_istore_n (L' := [some (.ref 56), some (.int (ab_bl b)), some (.int (nI 0)), none]) d_M_settles_5 ⟨by decide, rfl⟩ rfl ?_
  have endd : ∀ (gm gn : Nat → Int32) (lm ly : Nat → Nat), AR (N_n N) lm ly gm gn → SE N b lm ly → ab_W Y_M_settles none l (fun r m2 h2 => r = none ∧ m2 = m ∧ ∃ g1 g2 g3 g7 fs ft gm gn : Nat → Int32, h2 = HT (HV (HL h (oM (N_n N) (N_ns N) (N_ra N) (N_se N) me mi (nI (TT (N_n N))) ve ve tl at_ wr fe kp) g1 g2 g3) g7 fs ft) gm gn ∧ LY (N_n N) (6 ^ N_n N) g2 g3 ∧ ST N fs ft ∧ ∃ lm ly : Nat → Nat, AR (N_n N) lm ly gm gn ∧ SE N b lm ly) 56 [some (.ref 56), some (.int (ab_bl b)), some (.int (nI 0)), none] [] m (HT (HV (HL h (oM (N_n N) (N_ns N) (N_ra N) (N_se N) me mi (nI (TT (N_n N))) ve ve tl at_ wr fe kp) g1 g2 g3) g7 fs ft) gm gn) (0, 0) := by
    intro gm gn lm ly ar se
    refine aw_iload_n d_M_settles_56 rfl ?_
    refine aw_if_eq (tgt := 127) d_M_settles_57 (by decide) (fun c57 => ?_) (fun c57 => ?_)
    · refine aw_return d_M_settles_127 rfl ?_
      exact ⟨rfl, rfl, g1, g2, g3, g7, fs, ft, gm, gn, rfl, hly, hst, lm, ly, ar, se⟩
    · first | exact absurd c57 (by decide) | exact absurd (by decide) c57
  have rounds : ∀ (f r9 : Nat) (gm gn : Nat → Int32) (lm ly : Nat → Nat), r9 + f = TT (N_n N) + 1 → r9 ≤ TT (N_n N) → AR (N_n N) lm ly gm gn → VS N b (214560 * r9) lm ly → HK_ N b r9 lm ly → ab_W Y_M_settles none l (fun r m2 h2 => r = none ∧ m2 = m ∧ ∃ g1 g2 g3 g7 fs ft gm gn : Nat → Int32, h2 = HT (HV (HL h (oM (N_n N) (N_ns N) (N_ra N) (N_se N) me mi (nI (TT (N_n N))) ve ve tl at_ wr fe kp) g1 g2 g3) g7 fs ft) gm gn ∧ LY (N_n N) (6 ^ N_n N) g2 g3 ∧ ST N fs ft ∧ ∃ lm ly : Nat → Nat, AR (N_n N) lm ly gm gn ∧ SE N b lm ly) 56 [some (.ref 56), some (.int (ab_bl b)), some (.int (nI 1)), none] [] m (HT (HV (HL h (oM (N_n N) (N_ns N) (N_ra N) (N_se N) me mi (nI (TT (N_n N))) ve ve tl at_ wr fe kp) g1 g2 g3) g7 fs ft) gm gn) (0, 0) := by
    intro f
    induction f with
    | zero => intro r9 gm gn lm ly h1 h2; omega
    | succ f ihr =>
      intro r9 gm gn lm ly hr hrT ar vs hk
      refine aw_iload_n d_M_settles_56 rfl ?_
      refine aw_if_eq (tgt := 127) d_M_settles_57 (by decide) (fun c57 => ?_) (fun c57 => ?_)
      · first | exact absurd c57 (by decide) | exact absurd (by decide) c57
      · refine aw_iconst (v := nI 0) d_M_settles_60 (by decide) ?_
        refine aw_istore_n (L' := [some (.ref 56), some (.int (ab_bl b)), some (.int (nI 0)), none]) d_M_settles_61 ⟨by decide, rfl⟩ rfl ?_
        refine aw_iconst (v := nI 0) d_M_settles_62 (by decide) ?_
        refine aw_istore_n (L' := [some (.ref 56), some (.int (ab_bl b)), some (.int (nI 0)), some (.int (nI 0))]) d_M_settles_63 ⟨by decide, rfl⟩ rfl ?_
        have loops : ∀ ks s (gm gn : Nat → Int32) (lm ly : Nat → Nat) (mo : Nat), s + ks = 298 * TT (N_n N) → AR (N_n N) lm ly gm gn → VS N b (214560 * r9 + s) lm ly → HK_ N b r9 lm ly → HB N b r9 s lm ly → ((mo = 0 ∧ FX N b s lm ly) ∨ (mo = 1 ∧ r9 < TT (N_n N))) → ab_W Y_M_settles none l (fun r m2 h2 => r = none ∧ m2 = m ∧ ∃ g1 g2 g3 g7 fs ft gm gn : Nat → Int32, h2 = HT (HV (HL h (oM (N_n N) (N_ns N) (N_ra N) (N_se N) me mi (nI (TT (N_n N))) ve ve tl at_ wr fe kp) g1 g2 g3) g7 fs ft) gm gn ∧ LY (N_n N) (6 ^ N_n N) g2 g3 ∧ ST N fs ft ∧ ∃ lm ly : Nat → Nat, AR (N_n N) lm ly gm gn ∧ SE N b lm ly) 64 [some (.ref 56), some (.int (ab_bl b)), some (.int (nI mo)), some (.int (nI (s)))] [] m (HT (HV (HL h (oM (N_n N) (N_ns N) (N_ra N) (N_se N) me mi (nI (TT (N_n N))) ve ve tl at_ wr fe kp) g1 g2 g3) g7 fs ft) gm gn) (0, 0) := by
          intro ks
          induction ks with
          | zero =>
            intro s gm gn lm ly mo hs ar vs hk hb mc
            have hsn : 298 * TT (N_n N) = s := by omega
            subst hsn
            have mo1 : mo ≤ 1 := by rcases mc with z | z <;> omega
            refine aw_iload_n d_M_settles_64 rfl ?_
            refine aw_sipush (v := nI 298) d_M_settles_65 (by decide) ?_
            refine aw_aload_n d_M_settles_68 rfl ?_
            refine aw_get (k := 17) d_M_settles_69 cl_Model k_M_220 (by decide) rfl rfl ?_
            refine aw_imul d_M_settles_72 ?_
            rw [pk_mul]
            refine aw_icmp_ge (tgt := 124) d_M_settles_73 (by decide) (fun c73 => ?_) (fun c73 => ?_)
            · refine aw_goto (tgt := 56) d_M_settles_124 (by decide) ?_
              have hk0 : HK_ N b 0 lm ly := fun t ht k2 h2 m hw => hk t ht k2 (by omega) m hw
              have vs9 : VS N b (214560 * (r9 + 1)) lm ly := fun u hu => by obtain ⟨a1, a2, a3⟩ := vs u hu; exact ⟨a1, by omega, a3⟩
              rcases mc with ⟨em, fx⟩ | ⟨em, hr⟩
              · subst em
                exact aw_drop 3 (endd gm gn lm ly ar (vs9.se ok (fx.all ok vs9 hk0)))
              · subst em
                exact aw_drop 3 (ihr (r9 + 1) gm gn lm ly (by omega) (by omega) ar vs9 (hb.next hk0))
            · exact absurd (Int32.le_refl _) c73
          | succ ks ihs =>
            intro s gm gn lm ly mo hs ar vs hk hb mc
            have mo1 : mo ≤ 1 := by rcases mc with z | z <;> omega
            refine aw_iload_n d_M_settles_64 rfl ?_
            refine aw_sipush (v := nI 298) d_M_settles_65 (by decide) ?_
            refine aw_aload_n d_M_settles_68 rfl ?_
            refine aw_get (k := 17) d_M_settles_69 cl_Model k_M_220 (by decide) rfl rfl ?_
            refine aw_imul d_M_settles_72 ?_
            rw [pk_mul]
            refine aw_icmp_ge (tgt := 124) d_M_settles_73 (by decide) (fun c73 => ?_) (fun c73 => ?_)
            · exact absurd c73 (nI_ge (by omega) (by omega))
            · refine aw_aload_n d_M_settles_76 rfl ?_
              refine aw_get (k := 23) d_M_settles_77 cl_Model k_M_67 (by decide) rfl rfl ?_
              refine aw_iload_n d_M_settles_80 rfl ?_
              refine aw_ialoadN d_M_settles_81 rfl (by omega) (by decide) ?_
              refine aw_if_lt (tgt := 108) d_M_settles_82 (by decide) (fun c82 => ?_) (fun c82 => ?_)
              · refine aw_iload_n d_M_settles_108 rfl ?_
                refine aw_if_eq (tgt := 116) d_M_settles_109 (by decide) (fun c109 => ?_) (fun c109 => ?_)
                · refine aw_iconst (v := nI 0) d_M_settles_116 (by decide) ?_
                  refine aw_istore_n (L' := [some (.ref 56), some (.int (ab_bl b)), some (.int (nI 0)), some (.int (nI (s)))]) d_M_settles_117 ⟨by decide, rfl⟩ rfl ?_
                  refine aw_iinc (v := nI ((s) + 1)) (L' := [some (.ref 56), some (.int (ab_bl b)), some (.int (nI 0)), some (.int (nI ((s) + 1)))]) d_M_settles_118 rfl (nI_1 _) ⟨by decide, rfl⟩ rfl ?_
                  refine aw_goto (tgt := 64) d_M_settles_121 (by decide) ?_
                  first
                    | (have hnej : ¬ ej N b (prm (N_n N) (s / 298)) (s % 298) := fun z => by
                         have h3 := ((hst _ (show s / 298 < TT (N_n N) by omega) _ (Nat.mod_lt s (show 0 < 298 by decide))).1 z.1).1
                         rw [show 298 * (s / 298) + s % 298 = s by omega] at h3
                         rw [h3] at c82
                         exact absurd c82 (nI_n0 (by have := ((sto_Tb ok (Tb.pr_ hn6 (show s / 298 < TT (N_n N) by omega)) z.1.2.1).nu hn6).1; omega))
                       have em : mo = 0 := (nI_eq (by omega) (by decide)).mp c109
                       rw [show nI 0 = nI mo by rw [em]]
                       exact ihs (s + 1) gm gn lm ly mo (by omega) ar (fun u hu => by obtain ⟨a1, a2, a3⟩ := vs u hu; exact ⟨a1, by omega, a3⟩) hk (hb.skip hnej) (mc.imp (fun z => ⟨z.1, fun t ht j hj hlt hej => by
                           by_cases e : 298 * t + j = s
                           · exact absurd (by rw [show s / 298 = t by omega, show s % 298 = j by omega]; exact hej) hnej
                           · exact z.2 t ht j hj (by omega) hej⟩) id))
                    | (have hnej : ¬ ej N b (prm (N_n N) (s / 298)) (s % 298) := fun z => by
                         have h3 := ((hst _ (show s / 298 < TT (N_n N) by omega) _ (Nat.mod_lt s (show 0 < 298 by decide))).1 z.1).1
                         rw [show 298 * (s / 298) + s % 298 = s by omega] at h3
                         rw [h3] at c82
                         exact absurd c82 (nI_n0 (by have := ((sto_Tb ok (Tb.pr_ hn6 (show s / 298 < TT (N_n N) by omega)) z.1.2.1).nu hn6).1; omega))
                       have em : mo = 1 := by
                         rcases mc with z | z
                         · exact absurd (by rw [z.1]; rfl) c109
                         · exact z.1
                       rw [show nI 1 = nI mo by rw [em]]
                       exact ihs (s + 1) gm gn lm ly mo (by omega) ar (fun u hu => by obtain ⟨a1, a2, a3⟩ := vs u hu; exact ⟨a1, by omega, a3⟩) hk (hb.skip hnej) (mc.imp (fun z => ⟨z.1, fun t ht j hj hlt hej => by
                           by_cases e : 298 * t + j = s
                           · exact absurd (by rw [show s / 298 = t by omega, show s % 298 = j by omega]; exact hej) hnej
                           · exact z.2 t ht j hj (by omega) hej⟩) id))
                    | (have hnej : ¬ ej N b (prm (N_n N) (s / 298)) (s % 298) := fun z => by
                         have := z.2 (ab_bl_1.mp c86)
                         exact absurd c96 (nI_ge this (by decide))
                       have em : mo = 0 := (nI_eq (by omega) (by decide)).mp c109
                       rw [show nI 0 = nI mo by rw [em]]
                       exact ihs (s + 1) gm gn lm ly mo (by omega) ar (fun u hu => by obtain ⟨a1, a2, a3⟩ := vs u hu; exact ⟨a1, by omega, a3⟩) hk (hb.skip hnej) (mc.imp (fun z => ⟨z.1, fun t ht j hj hlt hej => by
                           by_cases e : 298 * t + j = s
                           · exact absurd (by rw [show s / 298 = t by omega, show s % 298 = j by omega]; exact hej) hnej
                           · exact z.2 t ht j hj (by omega) hej⟩) id))
                    | (have hnej : ¬ ej N b (prm (N_n N) (s / 298)) (s % 298) := fun z => by
                         have := z.2 (ab_bl_1.mp c86)
                         exact absurd c96 (nI_ge this (by decide))
                       have em : mo = 1 := by
                         rcases mc with z | z
                         · exact absurd (by rw [z.1]; rfl) c109
                         · exact z.1
                       rw [show nI 1 = nI mo by rw [em]]
                       exact ihs (s + 1) gm gn lm ly mo (by omega) ar (fun u hu => by obtain ⟨a1, a2, a3⟩ := vs u hu; exact ⟨a1, by omega, a3⟩) hk (hb.skip hnej) (mc.imp (fun z => ⟨z.1, fun t ht j hj hlt hej => by
                           by_cases e : 298 * t + j = s
                           · exact absurd (by rw [show s / 298 = t by omega, show s % 298 = j by omega]; exact hej) hnej
                           · exact z.2 t ht j hj (by omega) hej⟩) id))
                    | (have hbt := ab_bl_1.mp c105
                       exact ihs (s + 1) gm2 gn2 _ _ 1 (by omega) ar2 (vs.step ok htS hjS hej rfl) (hk.step _ _ _) (by
                           have hb9 := hb
                           rw [show s = 298 * (s / 298) + s % 298 by omega] at hb9
                           have z := hb9.add ok vs hk htS hjS hej rfl (fun k2 m hk2 hw => by
                             have := WK_le ok k2 _ m (Tb.pr_ hn6 ((sto_Tb ok (Tb.pr_ hn6 htS) hej.1.2.1).nu hn6).1) hw
                             omega)
                           rw [show 298 * (s / 298) + s % 298 + 1 = s + 1 by omega] at z
                           exact z) (Or.inr ⟨rfl, bet_round ok vs hk htS hjS hej hbt⟩))
                    | (have hbf := ab_bl_0.mp c105
                       have em : mo = 0 := (nI_eq (by omega) (by decide)).mp c109
                       rw [show nI 0 = nI mo by rw [em]]
                       refine ihs (s + 1) gm2 gn2 _ _ mo (by omega) ar2 (vs.step ok htS hjS hej rfl) (hk.step _ _ _) (by
                           have hb9 := hb
                           rw [show s = 298 * (s / 298) + s % 298 by omega] at hb9
                           have z := hb9.add ok vs hk htS hjS hej rfl (fun k2 m hk2 hw => by
                             have := WK_le ok k2 _ m (Tb.pr_ hn6 ((sto_Tb ok (Tb.pr_ hn6 htS) hej.1.2.1).nu hn6).1) hw
                             omega)
                           rw [show 298 * (s / 298) + s % 298 + 1 = s + 1 by omega] at z
                           exact z) (mc.imp (fun z => ⟨z.1, ?_⟩) id)
                       have e1 : lm2 lm ly (s / 298) (num (N_n N) (sto N (prm (N_n N) (s / 298)) (s % 298))) (cs N b (prm (N_n N) (s / 298)) (s % 298)) = lm := if_neg (by rw [hbf]; decide)
                       have e2 : ly2 lm ly (s / 298) (num (N_n N) (sto N (prm (N_n N) (s / 298)) (s % 298))) (cs N b (prm (N_n N) (s / 298)) (s % 298)) = ly := if_neg (by rw [hbf]; decide)
                       rw [e1, e2]
                       intro t ht j hj hlt hej2
                       by_cases e : 298 * t + j = s
                       · rw [show s / 298 = t by omega, show s % 298 = j by omega] at hbf
                         exact hbf
                       · exact z.2 t ht j hj (by omega) hej2)
                    | (have hbf := ab_bl_0.mp c105
                       have em : mo = 1 := by
                         rcases mc with z | z
                         · exact absurd (by rw [z.1]; rfl) c109
                         · exact z.1
                       rw [show nI 1 = nI mo by rw [em]]
                       refine ihs (s + 1) gm2 gn2 _ _ mo (by omega) ar2 (vs.step ok htS hjS hej rfl) (hk.step _ _ _) (by
                           have hb9 := hb
                           rw [show s = 298 * (s / 298) + s % 298 by omega] at hb9
                           have z := hb9.add ok vs hk htS hjS hej rfl (fun k2 m hk2 hw => by
                             have := WK_le ok k2 _ m (Tb.pr_ hn6 ((sto_Tb ok (Tb.pr_ hn6 htS) hej.1.2.1).nu hn6).1) hw
                             omega)
                           rw [show 298 * (s / 298) + s % 298 + 1 = s + 1 by omega] at z
                           exact z) (mc.imp (fun z => ⟨z.1, ?_⟩) id)
                       have e1 : lm2 lm ly (s / 298) (num (N_n N) (sto N (prm (N_n N) (s / 298)) (s % 298))) (cs N b (prm (N_n N) (s / 298)) (s % 298)) = lm := if_neg (by rw [hbf]; decide)
                       have e2 : ly2 lm ly (s / 298) (num (N_n N) (sto N (prm (N_n N) (s / 298)) (s % 298))) (cs N b (prm (N_n N) (s / 298)) (s % 298)) = ly := if_neg (by rw [hbf]; decide)
                       rw [e1, e2]
                       intro t ht j hj hlt hej2
                       by_cases e : 298 * t + j = s
                       · rw [show s / 298 = t by omega, show s % 298 = j by omega] at hbf
                         exact hbf
                       · exact z.2 t ht j hj (by omega) hej2)
                · refine aw_iconst (v := nI 1) d_M_settles_112 (by decide) ?_
                  refine aw_goto (tgt := 117) d_M_settles_113 (by decide) ?_
                  refine aw_istore_n (L' := [some (.ref 56), some (.int (ab_bl b)), some (.int (nI 1)), some (.int (nI (s)))]) d_M_settles_117 ⟨by decide, rfl⟩ rfl ?_
                  refine aw_iinc (v := nI ((s) + 1)) (L' := [some (.ref 56), some (.int (ab_bl b)), some (.int (nI 1)), some (.int (nI ((s) + 1)))]) d_M_settles_118 rfl (nI_1 _) ⟨by decide, rfl⟩ rfl ?_
                  refine aw_goto (tgt := 64) d_M_settles_121 (by decide) ?_
                  first
                    | (have hnej : ¬ ej N b (prm (N_n N) (s / 298)) (s % 298) := fun z => by
                         have h3 := ((hst _ (show s / 298 < TT (N_n N) by omega) _ (Nat.mod_lt s (show 0 < 298 by decide))).1 z.1).1
                         rw [show 298 * (s / 298) + s % 298 = s by omega] at h3
                         rw [h3] at c82
                         exact absurd c82 (nI_n0 (by have := ((sto_Tb ok (Tb.pr_ hn6 (show s / 298 < TT (N_n N) by omega)) z.1.2.1).nu hn6).1; omega))
                       have em : mo = 0 := (nI_eq (by omega) (by decide)).mp c109
                       rw [show nI 0 = nI mo by rw [em]]
                       exact ihs (s + 1) gm gn lm ly mo (by omega) ar (fun u hu => by obtain ⟨a1, a2, a3⟩ := vs u hu; exact ⟨a1, by omega, a3⟩) hk (hb.skip hnej) (mc.imp (fun z => ⟨z.1, fun t ht j hj hlt hej => by
                           by_cases e : 298 * t + j = s
                           · exact absurd (by rw [show s / 298 = t by omega, show s % 298 = j by omega]; exact hej) hnej
                           · exact z.2 t ht j hj (by omega) hej⟩) id))
                    | (have hnej : ¬ ej N b (prm (N_n N) (s / 298)) (s % 298) := fun z => by
                         have h3 := ((hst _ (show s / 298 < TT (N_n N) by omega) _ (Nat.mod_lt s (show 0 < 298 by decide))).1 z.1).1
                         rw [show 298 * (s / 298) + s % 298 = s by omega] at h3
                         rw [h3] at c82
                         exact absurd c82 (nI_n0 (by have := ((sto_Tb ok (Tb.pr_ hn6 (show s / 298 < TT (N_n N) by omega)) z.1.2.1).nu hn6).1; omega))
                       have em : mo = 1 := by
                         rcases mc with z | z
                         · exact absurd (by rw [z.1]; rfl) c109
                         · exact z.1
                       rw [show nI 1 = nI mo by rw [em]]
                       exact ihs (s + 1) gm gn lm ly mo (by omega) ar (fun u hu => by obtain ⟨a1, a2, a3⟩ := vs u hu; exact ⟨a1, by omega, a3⟩) hk (hb.skip hnej) (mc.imp (fun z => ⟨z.1, fun t ht j hj hlt hej => by
                           by_cases e : 298 * t + j = s
                           · exact absurd (by rw [show s / 298 = t by omega, show s % 298 = j by omega]; exact hej) hnej
                           · exact z.2 t ht j hj (by omega) hej⟩) id))
                    | (have hnej : ¬ ej N b (prm (N_n N) (s / 298)) (s % 298) := fun z => by
                         have := z.2 (ab_bl_1.mp c86)
                         exact absurd c96 (nI_ge this (by decide))
                       have em : mo = 0 := (nI_eq (by omega) (by decide)).mp c109
                       rw [show nI 0 = nI mo by rw [em]]
                       exact ihs (s + 1) gm gn lm ly mo (by omega) ar (fun u hu => by obtain ⟨a1, a2, a3⟩ := vs u hu; exact ⟨a1, by omega, a3⟩) hk (hb.skip hnej) (mc.imp (fun z => ⟨z.1, fun t ht j hj hlt hej => by
                           by_cases e : 298 * t + j = s
                           · exact absurd (by rw [show s / 298 = t by omega, show s % 298 = j by omega]; exact hej) hnej
                           · exact z.2 t ht j hj (by omega) hej⟩) id))
                    | (have hnej : ¬ ej N b (prm (N_n N) (s / 298)) (s % 298) := fun z => by
                         have := z.2 (ab_bl_1.mp c86)
                         exact absurd c96 (nI_ge this (by decide))
                       have em : mo = 1 := by
                         rcases mc with z | z
                         · exact absurd (by rw [z.1]; rfl) c109
                         · exact z.1
                       rw [show nI 1 = nI mo by rw [em]]
                       exact ihs (s + 1) gm gn lm ly mo (by omega) ar (fun u hu => by obtain ⟨a1, a2, a3⟩ := vs u hu; exact ⟨a1, by omega, a3⟩) hk (hb.skip hnej) (mc.imp (fun z => ⟨z.1, fun t ht j hj hlt hej => by
                           by_cases e : 298 * t + j = s
                           · exact absurd (by rw [show s / 298 = t by omega, show s % 298 = j by omega]; exact hej) hnej
                           · exact z.2 t ht j hj (by omega) hej⟩) id))
                    | (have hbt := ab_bl_1.mp c105
                       exact ihs (s + 1) gm2 gn2 _ _ 1 (by omega) ar2 (vs.step ok htS hjS hej rfl) (hk.step _ _ _) (by
                           have hb9 := hb
                           rw [show s = 298 * (s / 298) + s % 298 by omega] at hb9
                           have z := hb9.add ok vs hk htS hjS hej rfl (fun k2 m hk2 hw => by
                             have := WK_le ok k2 _ m (Tb.pr_ hn6 ((sto_Tb ok (Tb.pr_ hn6 htS) hej.1.2.1).nu hn6).1) hw
                             omega)
                           rw [show 298 * (s / 298) + s % 298 + 1 = s + 1 by omega] at z
                           exact z) (Or.inr ⟨rfl, bet_round ok vs hk htS hjS hej hbt⟩))
                    | (have hbf := ab_bl_0.mp c105
                       have em : mo = 0 := (nI_eq (by omega) (by decide)).mp c109
                       rw [show nI 0 = nI mo by rw [em]]
                       refine ihs (s + 1) gm2 gn2 _ _ mo (by omega) ar2 (vs.step ok htS hjS hej rfl) (hk.step _ _ _) (by
                           have hb9 := hb
                           rw [show s = 298 * (s / 298) + s % 298 by omega] at hb9
                           have z := hb9.add ok vs hk htS hjS hej rfl (fun k2 m hk2 hw => by
                             have := WK_le ok k2 _ m (Tb.pr_ hn6 ((sto_Tb ok (Tb.pr_ hn6 htS) hej.1.2.1).nu hn6).1) hw
                             omega)
                           rw [show 298 * (s / 298) + s % 298 + 1 = s + 1 by omega] at z
                           exact z) (mc.imp (fun z => ⟨z.1, ?_⟩) id)
                       have e1 : lm2 lm ly (s / 298) (num (N_n N) (sto N (prm (N_n N) (s / 298)) (s % 298))) (cs N b (prm (N_n N) (s / 298)) (s % 298)) = lm := if_neg (by rw [hbf]; decide)
                       have e2 : ly2 lm ly (s / 298) (num (N_n N) (sto N (prm (N_n N) (s / 298)) (s % 298))) (cs N b (prm (N_n N) (s / 298)) (s % 298)) = ly := if_neg (by rw [hbf]; decide)
                       rw [e1, e2]
                       intro t ht j hj hlt hej2
                       by_cases e : 298 * t + j = s
                       · rw [show s / 298 = t by omega, show s % 298 = j by omega] at hbf
                         exact hbf
                       · exact z.2 t ht j hj (by omega) hej2)
                    | (have hbf := ab_bl_0.mp c105
                       have em : mo = 1 := by
                         rcases mc with z | z
                         · exact absurd (by rw [z.1]; rfl) c109
                         · exact z.1
                       rw [show nI 1 = nI mo by rw [em]]
                       refine ihs (s + 1) gm2 gn2 _ _ mo (by omega) ar2 (vs.step ok htS hjS hej rfl) (hk.step _ _ _) (by
                           have hb9 := hb
                           rw [show s = 298 * (s / 298) + s % 298 by omega] at hb9
                           have z := hb9.add ok vs hk htS hjS hej rfl (fun k2 m hk2 hw => by
                             have := WK_le ok k2 _ m (Tb.pr_ hn6 ((sto_Tb ok (Tb.pr_ hn6 htS) hej.1.2.1).nu hn6).1) hw
                             omega)
                           rw [show 298 * (s / 298) + s % 298 + 1 = s + 1 by omega] at z
                           exact z) (mc.imp (fun z => ⟨z.1, ?_⟩) id)
                       have e1 : lm2 lm ly (s / 298) (num (N_n N) (sto N (prm (N_n N) (s / 298)) (s % 298))) (cs N b (prm (N_n N) (s / 298)) (s % 298)) = lm := if_neg (by rw [hbf]; decide)
                       have e2 : ly2 lm ly (s / 298) (num (N_n N) (sto N (prm (N_n N) (s / 298)) (s % 298))) (cs N b (prm (N_n N) (s / 298)) (s % 298)) = ly := if_neg (by rw [hbf]; decide)
                       rw [e1, e2]
                       intro t ht j hj hlt hej2
                       by_cases e : 298 * t + j = s
                       · rw [show s / 298 = t by omega, show s % 298 = j by omega] at hbf
                         exact hbf
                       · exact z.2 t ht j hj (by omega) hej2)
              · refine aw_iload_n d_M_settles_85 rfl ?_
                refine aw_if_eq (tgt := 99) d_M_settles_86 (by decide) (fun c86 => ?_) (fun c86 => ?_)
                · have hsk : sok N (prm (N_n N) (s / 298)) (s % 298) := Classical.byContradiction (fun z => by
                         have h3 := (hst _ (show s / 298 < TT (N_n N) by omega) _ (Nat.mod_lt s (show 0 < 298 by decide))).2 z
                         rw [show 298 * (s / 298) + s % 298 = s by omega] at h3
                         rw [h3] at c82
                         exact c82 (by decide))
                  have hej : ej N b (prm (N_n N) (s / 298)) (s % 298) := ⟨hsk, fun hbt => by
                         first
                           | (rw [hbt] at c86; exact absurd c86 (by decide))
                           | exact Nat.not_le.mp (fun z => c96 (nI_le z (by omega)))⟩
                  have htS : s / 298 < TT (N_n N) := by omega
                  have hjS : s % 298 < 298 := Nat.mod_lt _ (by decide)
                  refine aw_aload_n d_M_settles_99 rfl ?_
                  refine aw_iload_n d_M_settles_100 rfl ?_
                  refine aw_iload_n d_M_settles_101 rfl ?_
                  refine aw_v0 (a := 56) d_M_settles_102 k_M_243 ok_M_betters rfl ⟨rfl, rfl⟩ cl_Model rfl (c_betters (h := (HV (HL h (oM (N_n N) (N_ns N) (N_ra N) (N_se N) me mi (nI (TT (N_n N))) ve ve tl at_ wr fe kp) g1 g2 g3) g7 fs ft)) (N := N) rfl ok (fs := fs) (ft := ft) rfl rfl hst ar (q := 214560 * r9 + s) (by omega) vs (k := s) (by omega) hej) rfl rfl (Nat.le_of_ble_eq_true rfl) (fun r m2 h2 z => ?_)
                  obtain ⟨rfl, em, gm2, gn2, rfl, ar2⟩ := z
                  rw [em]
                  show ab_W _ _ _ _ 105 _ [.int (ab_bl (bet lm ly (s / 298) (num (N_n N) (sto N (prm (N_n N) (s / 298)) (s % 298))) (cs N b (prm (N_n N) (s / 298)) (s % 298))))] _ _ _
                  refine aw_if_ne (tgt := 112) d_M_settles_105 (by decide) (fun c105 => ?_) (fun c105 => ?_)
                  · refine aw_iconst (v := nI 1) d_M_settles_112 (by decide) ?_
                    refine aw_goto (tgt := 117) d_M_settles_113 (by decide) ?_
                    refine aw_istore_n (L' := [some (.ref 56), some (.int (ab_bl b)), some (.int (nI 1)), some (.int (nI (s)))]) d_M_settles_117 ⟨by decide, rfl⟩ rfl ?_
                    refine aw_iinc (v := nI ((s) + 1)) (L' := [some (.ref 56), some (.int (ab_bl b)), some (.int (nI 1)), some (.int (nI ((s) + 1)))]) d_M_settles_118 rfl (nI_1 _) ⟨by decide, rfl⟩ rfl ?_
                    refine aw_goto (tgt := 64) d_M_settles_121 (by decide) ?_
                    first
                      | (have hnej : ¬ ej N b (prm (N_n N) (s / 298)) (s % 298) := fun z => by
                           have h3 := ((hst _ (show s / 298 < TT (N_n N) by omega) _ (Nat.mod_lt s (show 0 < 298 by decide))).1 z.1).1
                           rw [show 298 * (s / 298) + s % 298 = s by omega] at h3
                           rw [h3] at c82
                           exact absurd c82 (nI_n0 (by have := ((sto_Tb ok (Tb.pr_ hn6 (show s / 298 < TT (N_n N) by omega)) z.1.2.1).nu hn6).1; omega))
                         have em : mo = 0 := (nI_eq (by omega) (by decide)).mp c109
                         rw [show nI 0 = nI mo by rw [em]]
                         exact ihs (s + 1) gm gn lm ly mo (by omega) ar (fun u hu => by obtain ⟨a1, a2, a3⟩ := vs u hu; exact ⟨a1, by omega, a3⟩) hk (hb.skip hnej) (mc.imp (fun z => ⟨z.1, fun t ht j hj hlt hej => by
                             by_cases e : 298 * t + j = s
                             · exact absurd (by rw [show s / 298 = t by omega, show s % 298 = j by omega]; exact hej) hnej
                             · exact z.2 t ht j hj (by omega) hej⟩) id))
                      | (have hnej : ¬ ej N b (prm (N_n N) (s / 298)) (s % 298) := fun z => by
                           have h3 := ((hst _ (show s / 298 < TT (N_n N) by omega) _ (Nat.mod_lt s (show 0 < 298 by decide))).1 z.1).1
                           rw [show 298 * (s / 298) + s % 298 = s by omega] at h3
                           rw [h3] at c82
                           exact absurd c82 (nI_n0 (by have := ((sto_Tb ok (Tb.pr_ hn6 (show s / 298 < TT (N_n N) by omega)) z.1.2.1).nu hn6).1; omega))
                         have em : mo = 1 := by
                           rcases mc with z | z
                           · exact absurd (by rw [z.1]; rfl) c109
                           · exact z.1
                         rw [show nI 1 = nI mo by rw [em]]
                         exact ihs (s + 1) gm gn lm ly mo (by omega) ar (fun u hu => by obtain ⟨a1, a2, a3⟩ := vs u hu; exact ⟨a1, by omega, a3⟩) hk (hb.skip hnej) (mc.imp (fun z => ⟨z.1, fun t ht j hj hlt hej => by
                             by_cases e : 298 * t + j = s
                             · exact absurd (by rw [show s / 298 = t by omega, show s % 298 = j by omega]; exact hej) hnej
                             · exact z.2 t ht j hj (by omega) hej⟩) id))
                      | (have hnej : ¬ ej N b (prm (N_n N) (s / 298)) (s % 298) := fun z => by
                           have := z.2 (ab_bl_1.mp c86)
                           exact absurd c96 (nI_ge this (by decide))
                         have em : mo = 0 := (nI_eq (by omega) (by decide)).mp c109
                         rw [show nI 0 = nI mo by rw [em]]
                         exact ihs (s + 1) gm gn lm ly mo (by omega) ar (fun u hu => by obtain ⟨a1, a2, a3⟩ := vs u hu; exact ⟨a1, by omega, a3⟩) hk (hb.skip hnej) (mc.imp (fun z => ⟨z.1, fun t ht j hj hlt hej => by
                             by_cases e : 298 * t + j = s
                             · exact absurd (by rw [show s / 298 = t by omega, show s % 298 = j by omega]; exact hej) hnej
                             · exact z.2 t ht j hj (by omega) hej⟩) id))
                      | (have hnej : ¬ ej N b (prm (N_n N) (s / 298)) (s % 298) := fun z => by
                           have := z.2 (ab_bl_1.mp c86)
                           exact absurd c96 (nI_ge this (by decide))
                         have em : mo = 1 := by
                           rcases mc with z | z
                           · exact absurd (by rw [z.1]; rfl) c109
                           · exact z.1
                         rw [show nI 1 = nI mo by rw [em]]
                         exact ihs (s + 1) gm gn lm ly mo (by omega) ar (fun u hu => by obtain ⟨a1, a2, a3⟩ := vs u hu; exact ⟨a1, by omega, a3⟩) hk (hb.skip hnej) (mc.imp (fun z => ⟨z.1, fun t ht j hj hlt hej => by
                             by_cases e : 298 * t + j = s
                             · exact absurd (by rw [show s / 298 = t by omega, show s % 298 = j by omega]; exact hej) hnej
                             · exact z.2 t ht j hj (by omega) hej⟩) id))
                      | (have hbt := ab_bl_1.mp c105
                         exact ihs (s + 1) gm2 gn2 _ _ 1 (by omega) ar2 (vs.step ok htS hjS hej rfl) (hk.step _ _ _) (by
                             have hb9 := hb
                             rw [show s = 298 * (s / 298) + s % 298 by omega] at hb9
                             have z := hb9.add ok vs hk htS hjS hej rfl (fun k2 m hk2 hw => by
                               have := WK_le ok k2 _ m (Tb.pr_ hn6 ((sto_Tb ok (Tb.pr_ hn6 htS) hej.1.2.1).nu hn6).1) hw
                               omega)
                             rw [show 298 * (s / 298) + s % 298 + 1 = s + 1 by omega] at z
                             exact z) (Or.inr ⟨rfl, bet_round ok vs hk htS hjS hej hbt⟩))
                      | (have hbf := ab_bl_0.mp c105
                         have em : mo = 0 := (nI_eq (by omega) (by decide)).mp c109
                         rw [show nI 0 = nI mo by rw [em]]
                         refine ihs (s + 1) gm2 gn2 _ _ mo (by omega) ar2 (vs.step ok htS hjS hej rfl) (hk.step _ _ _) (by
                             have hb9 := hb
                             rw [show s = 298 * (s / 298) + s % 298 by omega] at hb9
                             have z := hb9.add ok vs hk htS hjS hej rfl (fun k2 m hk2 hw => by
                               have := WK_le ok k2 _ m (Tb.pr_ hn6 ((sto_Tb ok (Tb.pr_ hn6 htS) hej.1.2.1).nu hn6).1) hw
                               omega)
                             rw [show 298 * (s / 298) + s % 298 + 1 = s + 1 by omega] at z
                             exact z) (mc.imp (fun z => ⟨z.1, ?_⟩) id)
                         have e1 : lm2 lm ly (s / 298) (num (N_n N) (sto N (prm (N_n N) (s / 298)) (s % 298))) (cs N b (prm (N_n N) (s / 298)) (s % 298)) = lm := if_neg (by rw [hbf]; decide)
                         have e2 : ly2 lm ly (s / 298) (num (N_n N) (sto N (prm (N_n N) (s / 298)) (s % 298))) (cs N b (prm (N_n N) (s / 298)) (s % 298)) = ly := if_neg (by rw [hbf]; decide)
                         rw [e1, e2]
                         intro t ht j hj hlt hej2
                         by_cases e : 298 * t + j = s
                         · rw [show s / 298 = t by omega, show s % 298 = j by omega] at hbf
                           exact hbf
                         · exact z.2 t ht j hj (by omega) hej2)
                      | (have hbf := ab_bl_0.mp c105
                         have em : mo = 1 := by
                           rcases mc with z | z
                           · exact absurd (by rw [z.1]; rfl) c109
                           · exact z.1
                         rw [show nI 1 = nI mo by rw [em]]
                         refine ihs (s + 1) gm2 gn2 _ _ mo (by omega) ar2 (vs.step ok htS hjS hej rfl) (hk.step _ _ _) (by
                             have hb9 := hb
                             rw [show s = 298 * (s / 298) + s % 298 by omega] at hb9
                             have z := hb9.add ok vs hk htS hjS hej rfl (fun k2 m hk2 hw => by
                               have := WK_le ok k2 _ m (Tb.pr_ hn6 ((sto_Tb ok (Tb.pr_ hn6 htS) hej.1.2.1).nu hn6).1) hw
                               omega)
                             rw [show 298 * (s / 298) + s % 298 + 1 = s + 1 by omega] at z
                             exact z) (mc.imp (fun z => ⟨z.1, ?_⟩) id)
                         have e1 : lm2 lm ly (s / 298) (num (N_n N) (sto N (prm (N_n N) (s / 298)) (s % 298))) (cs N b (prm (N_n N) (s / 298)) (s % 298)) = lm := if_neg (by rw [hbf]; decide)
                         have e2 : ly2 lm ly (s / 298) (num (N_n N) (sto N (prm (N_n N) (s / 298)) (s % 298))) (cs N b (prm (N_n N) (s / 298)) (s % 298)) = ly := if_neg (by rw [hbf]; decide)
                         rw [e1, e2]
                         intro t ht j hj hlt hej2
                         by_cases e : 298 * t + j = s
                         · rw [show s / 298 = t by omega, show s % 298 = j by omega] at hbf
                           exact hbf
                         · exact z.2 t ht j hj (by omega) hej2)
                  · refine aw_iload_n d_M_settles_108 rfl ?_
                    refine aw_if_eq (tgt := 116) d_M_settles_109 (by decide) (fun c109 => ?_) (fun c109 => ?_)
                    · refine aw_iconst (v := nI 0) d_M_settles_116 (by decide) ?_
                      refine aw_istore_n (L' := [some (.ref 56), some (.int (ab_bl b)), some (.int (nI 0)), some (.int (nI (s)))]) d_M_settles_117 ⟨by decide, rfl⟩ rfl ?_
                      refine aw_iinc (v := nI ((s) + 1)) (L' := [some (.ref 56), some (.int (ab_bl b)), some (.int (nI 0)), some (.int (nI ((s) + 1)))]) d_M_settles_118 rfl (nI_1 _) ⟨by decide, rfl⟩ rfl ?_
                      refine aw_goto (tgt := 64) d_M_settles_121 (by decide) ?_
                      first
                        | (have hnej : ¬ ej N b (prm (N_n N) (s / 298)) (s % 298) := fun z => by
                             have h3 := ((hst _ (show s / 298 < TT (N_n N) by omega) _ (Nat.mod_lt s (show 0 < 298 by decide))).1 z.1).1
                             rw [show 298 * (s / 298) + s % 298 = s by omega] at h3
                             rw [h3] at c82
                             exact absurd c82 (nI_n0 (by have := ((sto_Tb ok (Tb.pr_ hn6 (show s / 298 < TT (N_n N) by omega)) z.1.2.1).nu hn6).1; omega))
                           have em : mo = 0 := (nI_eq (by omega) (by decide)).mp c109
                           rw [show nI 0 = nI mo by rw [em]]
                           exact ihs (s + 1) gm gn lm ly mo (by omega) ar (fun u hu => by obtain ⟨a1, a2, a3⟩ := vs u hu; exact ⟨a1, by omega, a3⟩) hk (hb.skip hnej) (mc.imp (fun z => ⟨z.1, fun t ht j hj hlt hej => by
                               by_cases e : 298 * t + j = s
                               · exact absurd (by rw [show s / 298 = t by omega, show s % 298 = j by omega]; exact hej) hnej
                               · exact z.2 t ht j hj (by omega) hej⟩) id))
                        | (have hnej : ¬ ej N b (prm (N_n N) (s / 298)) (s % 298) := fun z => by
                             have h3 := ((hst _ (show s / 298 < TT (N_n N) by omega) _ (Nat.mod_lt s (show 0 < 298 by decide))).1 z.1).1
                             rw [show 298 * (s / 298) + s % 298 = s by omega] at h3
                             rw [h3] at c82
                             exact absurd c82 (nI_n0 (by have := ((sto_Tb ok (Tb.pr_ hn6 (show s / 298 < TT (N_n N) by omega)) z.1.2.1).nu hn6).1; omega))
                           have em : mo = 1 := by
                             rcases mc with z | z
                             · exact absurd (by rw [z.1]; rfl) c109
                             · exact z.1
                           rw [show nI 1 = nI mo by rw [em]]
                           exact ihs (s + 1) gm gn lm ly mo (by omega) ar (fun u hu => by obtain ⟨a1, a2, a3⟩ := vs u hu; exact ⟨a1, by omega, a3⟩) hk (hb.skip hnej) (mc.imp (fun z => ⟨z.1, fun t ht j hj hlt hej => by
                               by_cases e : 298 * t + j = s
                               · exact absurd (by rw [show s / 298 = t by omega, show s % 298 = j by omega]; exact hej) hnej
                               · exact z.2 t ht j hj (by omega) hej⟩) id))
                        | (have hnej : ¬ ej N b (prm (N_n N) (s / 298)) (s % 298) := fun z => by
                             have := z.2 (ab_bl_1.mp c86)
                             exact absurd c96 (nI_ge this (by decide))
                           have em : mo = 0 := (nI_eq (by omega) (by decide)).mp c109
                           rw [show nI 0 = nI mo by rw [em]]
                           exact ihs (s + 1) gm gn lm ly mo (by omega) ar (fun u hu => by obtain ⟨a1, a2, a3⟩ := vs u hu; exact ⟨a1, by omega, a3⟩) hk (hb.skip hnej) (mc.imp (fun z => ⟨z.1, fun t ht j hj hlt hej => by
                               by_cases e : 298 * t + j = s
                               · exact absurd (by rw [show s / 298 = t by omega, show s % 298 = j by omega]; exact hej) hnej
                               · exact z.2 t ht j hj (by omega) hej⟩) id))
                        | (have hnej : ¬ ej N b (prm (N_n N) (s / 298)) (s % 298) := fun z => by
                             have := z.2 (ab_bl_1.mp c86)
                             exact absurd c96 (nI_ge this (by decide))
                           have em : mo = 1 := by
                             rcases mc with z | z
                             · exact absurd (by rw [z.1]; rfl) c109
                             · exact z.1
                           rw [show nI 1 = nI mo by rw [em]]
                           exact ihs (s + 1) gm gn lm ly mo (by omega) ar (fun u hu => by obtain ⟨a1, a2, a3⟩ := vs u hu; exact ⟨a1, by omega, a3⟩) hk (hb.skip hnej) (mc.imp (fun z => ⟨z.1, fun t ht j hj hlt hej => by
                               by_cases e : 298 * t + j = s
                               · exact absurd (by rw [show s / 298 = t by omega, show s % 298 = j by omega]; exact hej) hnej
                               · exact z.2 t ht j hj (by omega) hej⟩) id))
                        | (have hbt := ab_bl_1.mp c105
                           exact ihs (s + 1) gm2 gn2 _ _ 1 (by omega) ar2 (vs.step ok htS hjS hej rfl) (hk.step _ _ _) (by
                               have hb9 := hb
                               rw [show s = 298 * (s / 298) + s % 298 by omega] at hb9
                               have z := hb9.add ok vs hk htS hjS hej rfl (fun k2 m hk2 hw => by
                                 have := WK_le ok k2 _ m (Tb.pr_ hn6 ((sto_Tb ok (Tb.pr_ hn6 htS) hej.1.2.1).nu hn6).1) hw
                                 omega)
                               rw [show 298 * (s / 298) + s % 298 + 1 = s + 1 by omega] at z
                               exact z) (Or.inr ⟨rfl, bet_round ok vs hk htS hjS hej hbt⟩))
                        | (have hbf := ab_bl_0.mp c105
                           have em : mo = 0 := (nI_eq (by omega) (by decide)).mp c109
                           rw [show nI 0 = nI mo by rw [em]]
                           refine ihs (s + 1) gm2 gn2 _ _ mo (by omega) ar2 (vs.step ok htS hjS hej rfl) (hk.step _ _ _) (by
                               have hb9 := hb
                               rw [show s = 298 * (s / 298) + s % 298 by omega] at hb9
                               have z := hb9.add ok vs hk htS hjS hej rfl (fun k2 m hk2 hw => by
                                 have := WK_le ok k2 _ m (Tb.pr_ hn6 ((sto_Tb ok (Tb.pr_ hn6 htS) hej.1.2.1).nu hn6).1) hw
                                 omega)
                               rw [show 298 * (s / 298) + s % 298 + 1 = s + 1 by omega] at z
                               exact z) (mc.imp (fun z => ⟨z.1, ?_⟩) id)
                           have e1 : lm2 lm ly (s / 298) (num (N_n N) (sto N (prm (N_n N) (s / 298)) (s % 298))) (cs N b (prm (N_n N) (s / 298)) (s % 298)) = lm := if_neg (by rw [hbf]; decide)
                           have e2 : ly2 lm ly (s / 298) (num (N_n N) (sto N (prm (N_n N) (s / 298)) (s % 298))) (cs N b (prm (N_n N) (s / 298)) (s % 298)) = ly := if_neg (by rw [hbf]; decide)
                           rw [e1, e2]
                           intro t ht j hj hlt hej2
                           by_cases e : 298 * t + j = s
                           · rw [show s / 298 = t by omega, show s % 298 = j by omega] at hbf
                             exact hbf
                           · exact z.2 t ht j hj (by omega) hej2)
                        | (have hbf := ab_bl_0.mp c105
                           have em : mo = 1 := by
                             rcases mc with z | z
                             · exact absurd (by rw [z.1]; rfl) c109
                             · exact z.1
                           rw [show nI 1 = nI mo by rw [em]]
                           refine ihs (s + 1) gm2 gn2 _ _ mo (by omega) ar2 (vs.step ok htS hjS hej rfl) (hk.step _ _ _) (by
                               have hb9 := hb
                               rw [show s = 298 * (s / 298) + s % 298 by omega] at hb9
                               have z := hb9.add ok vs hk htS hjS hej rfl (fun k2 m hk2 hw => by
                                 have := WK_le ok k2 _ m (Tb.pr_ hn6 ((sto_Tb ok (Tb.pr_ hn6 htS) hej.1.2.1).nu hn6).1) hw
                                 omega)
                               rw [show 298 * (s / 298) + s % 298 + 1 = s + 1 by omega] at z
                               exact z) (mc.imp (fun z => ⟨z.1, ?_⟩) id)
                           have e1 : lm2 lm ly (s / 298) (num (N_n N) (sto N (prm (N_n N) (s / 298)) (s % 298))) (cs N b (prm (N_n N) (s / 298)) (s % 298)) = lm := if_neg (by rw [hbf]; decide)
                           have e2 : ly2 lm ly (s / 298) (num (N_n N) (sto N (prm (N_n N) (s / 298)) (s % 298))) (cs N b (prm (N_n N) (s / 298)) (s % 298)) = ly := if_neg (by rw [hbf]; decide)
                           rw [e1, e2]
                           intro t ht j hj hlt hej2
                           by_cases e : 298 * t + j = s
                           · rw [show s / 298 = t by omega, show s % 298 = j by omega] at hbf
                             exact hbf
                           · exact z.2 t ht j hj (by omega) hej2)
                    · refine aw_iconst (v := nI 1) d_M_settles_112 (by decide) ?_
                      refine aw_goto (tgt := 117) d_M_settles_113 (by decide) ?_
                      refine aw_istore_n (L' := [some (.ref 56), some (.int (ab_bl b)), some (.int (nI 1)), some (.int (nI (s)))]) d_M_settles_117 ⟨by decide, rfl⟩ rfl ?_
                      refine aw_iinc (v := nI ((s) + 1)) (L' := [some (.ref 56), some (.int (ab_bl b)), some (.int (nI 1)), some (.int (nI ((s) + 1)))]) d_M_settles_118 rfl (nI_1 _) ⟨by decide, rfl⟩ rfl ?_
                      refine aw_goto (tgt := 64) d_M_settles_121 (by decide) ?_
                      first
                        | (have hnej : ¬ ej N b (prm (N_n N) (s / 298)) (s % 298) := fun z => by
                             have h3 := ((hst _ (show s / 298 < TT (N_n N) by omega) _ (Nat.mod_lt s (show 0 < 298 by decide))).1 z.1).1
                             rw [show 298 * (s / 298) + s % 298 = s by omega] at h3
                             rw [h3] at c82
                             exact absurd c82 (nI_n0 (by have := ((sto_Tb ok (Tb.pr_ hn6 (show s / 298 < TT (N_n N) by omega)) z.1.2.1).nu hn6).1; omega))
                           have em : mo = 0 := (nI_eq (by omega) (by decide)).mp c109
                           rw [show nI 0 = nI mo by rw [em]]
                           exact ihs (s + 1) gm gn lm ly mo (by omega) ar (fun u hu => by obtain ⟨a1, a2, a3⟩ := vs u hu; exact ⟨a1, by omega, a3⟩) hk (hb.skip hnej) (mc.imp (fun z => ⟨z.1, fun t ht j hj hlt hej => by
                               by_cases e : 298 * t + j = s
                               · exact absurd (by rw [show s / 298 = t by omega, show s % 298 = j by omega]; exact hej) hnej
                               · exact z.2 t ht j hj (by omega) hej⟩) id))
                        | (have hnej : ¬ ej N b (prm (N_n N) (s / 298)) (s % 298) := fun z => by
                             have h3 := ((hst _ (show s / 298 < TT (N_n N) by omega) _ (Nat.mod_lt s (show 0 < 298 by decide))).1 z.1).1
                             rw [show 298 * (s / 298) + s % 298 = s by omega] at h3
                             rw [h3] at c82
                             exact absurd c82 (nI_n0 (by have := ((sto_Tb ok (Tb.pr_ hn6 (show s / 298 < TT (N_n N) by omega)) z.1.2.1).nu hn6).1; omega))
                           have em : mo = 1 := by
                             rcases mc with z | z
                             · exact absurd (by rw [z.1]; rfl) c109
                             · exact z.1
                           rw [show nI 1 = nI mo by rw [em]]
                           exact ihs (s + 1) gm gn lm ly mo (by omega) ar (fun u hu => by obtain ⟨a1, a2, a3⟩ := vs u hu; exact ⟨a1, by omega, a3⟩) hk (hb.skip hnej) (mc.imp (fun z => ⟨z.1, fun t ht j hj hlt hej => by
                               by_cases e : 298 * t + j = s
                               · exact absurd (by rw [show s / 298 = t by omega, show s % 298 = j by omega]; exact hej) hnej
                               · exact z.2 t ht j hj (by omega) hej⟩) id))
                        | (have hnej : ¬ ej N b (prm (N_n N) (s / 298)) (s % 298) := fun z => by
                             have := z.2 (ab_bl_1.mp c86)
                             exact absurd c96 (nI_ge this (by decide))
                           have em : mo = 0 := (nI_eq (by omega) (by decide)).mp c109
                           rw [show nI 0 = nI mo by rw [em]]
                           exact ihs (s + 1) gm gn lm ly mo (by omega) ar (fun u hu => by obtain ⟨a1, a2, a3⟩ := vs u hu; exact ⟨a1, by omega, a3⟩) hk (hb.skip hnej) (mc.imp (fun z => ⟨z.1, fun t ht j hj hlt hej => by
                               by_cases e : 298 * t + j = s
                               · exact absurd (by rw [show s / 298 = t by omega, show s % 298 = j by omega]; exact hej) hnej
                               · exact z.2 t ht j hj (by omega) hej⟩) id))
                        | (have hnej : ¬ ej N b (prm (N_n N) (s / 298)) (s % 298) := fun z => by
                             have := z.2 (ab_bl_1.mp c86)
                             exact absurd c96 (nI_ge this (by decide))
                           have em : mo = 1 := by
                             rcases mc with z | z
                             · exact absurd (by rw [z.1]; rfl) c109
                             · exact z.1
                           rw [show nI 1 = nI mo by rw [em]]
                           exact ihs (s + 1) gm gn lm ly mo (by omega) ar (fun u hu => by obtain ⟨a1, a2, a3⟩ := vs u hu; exact ⟨a1, by omega, a3⟩) hk (hb.skip hnej) (mc.imp (fun z => ⟨z.1, fun t ht j hj hlt hej => by
                               by_cases e : 298 * t + j = s
                               · exact absurd (by rw [show s / 298 = t by omega, show s % 298 = j by omega]; exact hej) hnej
                               · exact z.2 t ht j hj (by omega) hej⟩) id))
                        | (have hbt := ab_bl_1.mp c105
                           exact ihs (s + 1) gm2 gn2 _ _ 1 (by omega) ar2 (vs.step ok htS hjS hej rfl) (hk.step _ _ _) (by
                               have hb9 := hb
                               rw [show s = 298 * (s / 298) + s % 298 by omega] at hb9
                               have z := hb9.add ok vs hk htS hjS hej rfl (fun k2 m hk2 hw => by
                                 have := WK_le ok k2 _ m (Tb.pr_ hn6 ((sto_Tb ok (Tb.pr_ hn6 htS) hej.1.2.1).nu hn6).1) hw
                                 omega)
                               rw [show 298 * (s / 298) + s % 298 + 1 = s + 1 by omega] at z
                               exact z) (Or.inr ⟨rfl, bet_round ok vs hk htS hjS hej hbt⟩))
                        | (have hbf := ab_bl_0.mp c105
                           have em : mo = 0 := (nI_eq (by omega) (by decide)).mp c109
                           rw [show nI 0 = nI mo by rw [em]]
                           refine ihs (s + 1) gm2 gn2 _ _ mo (by omega) ar2 (vs.step ok htS hjS hej rfl) (hk.step _ _ _) (by
                               have hb9 := hb
                               rw [show s = 298 * (s / 298) + s % 298 by omega] at hb9
                               have z := hb9.add ok vs hk htS hjS hej rfl (fun k2 m hk2 hw => by
                                 have := WK_le ok k2 _ m (Tb.pr_ hn6 ((sto_Tb ok (Tb.pr_ hn6 htS) hej.1.2.1).nu hn6).1) hw
                                 omega)
                               rw [show 298 * (s / 298) + s % 298 + 1 = s + 1 by omega] at z
                               exact z) (mc.imp (fun z => ⟨z.1, ?_⟩) id)
                           have e1 : lm2 lm ly (s / 298) (num (N_n N) (sto N (prm (N_n N) (s / 298)) (s % 298))) (cs N b (prm (N_n N) (s / 298)) (s % 298)) = lm := if_neg (by rw [hbf]; decide)
                           have e2 : ly2 lm ly (s / 298) (num (N_n N) (sto N (prm (N_n N) (s / 298)) (s % 298))) (cs N b (prm (N_n N) (s / 298)) (s % 298)) = ly := if_neg (by rw [hbf]; decide)
                           rw [e1, e2]
                           intro t ht j hj hlt hej2
                           by_cases e : 298 * t + j = s
                           · rw [show s / 298 = t by omega, show s % 298 = j by omega] at hbf
                             exact hbf
                           · exact z.2 t ht j hj (by omega) hej2)
                        | (have hbf := ab_bl_0.mp c105
                           have em : mo = 1 := by
                             rcases mc with z | z
                             · exact absurd (by rw [z.1]; rfl) c109
                             · exact z.1
                           rw [show nI 1 = nI mo by rw [em]]
                           refine ihs (s + 1) gm2 gn2 _ _ mo (by omega) ar2 (vs.step ok htS hjS hej rfl) (hk.step _ _ _) (by
                               have hb9 := hb
                               rw [show s = 298 * (s / 298) + s % 298 by omega] at hb9
                               have z := hb9.add ok vs hk htS hjS hej rfl (fun k2 m hk2 hw => by
                                 have := WK_le ok k2 _ m (Tb.pr_ hn6 ((sto_Tb ok (Tb.pr_ hn6 htS) hej.1.2.1).nu hn6).1) hw
                                 omega)
                               rw [show 298 * (s / 298) + s % 298 + 1 = s + 1 by omega] at z
                               exact z) (mc.imp (fun z => ⟨z.1, ?_⟩) id)
                           have e1 : lm2 lm ly (s / 298) (num (N_n N) (sto N (prm (N_n N) (s / 298)) (s % 298))) (cs N b (prm (N_n N) (s / 298)) (s % 298)) = lm := if_neg (by rw [hbf]; decide)
                           have e2 : ly2 lm ly (s / 298) (num (N_n N) (sto N (prm (N_n N) (s / 298)) (s % 298))) (cs N b (prm (N_n N) (s / 298)) (s % 298)) = ly := if_neg (by rw [hbf]; decide)
                           rw [e1, e2]
                           intro t ht j hj hlt hej2
                           by_cases e : 298 * t + j = s
                           · rw [show s / 298 = t by omega, show s % 298 = j by omega] at hbf
                             exact hbf
                           · exact z.2 t ht j hj (by omega) hej2)
                · refine aw_iload_n d_M_settles_89 rfl ?_
                  refine aw_sipush (v := nI 298) d_M_settles_90 (by decide) ?_
                  refine aw_irem d_M_settles_93 (by decide) ?_
                  rw [rm (by omega) (by decide) (by decide)]
                  refine aw_bipush (v := nI 36) d_M_settles_94 (by decide) ?_
                  refine aw_icmp_ge (tgt := 108) d_M_settles_96 (by decide) (fun c96 => ?_) (fun c96 => ?_)
                  · refine aw_iload_n d_M_settles_108 rfl ?_
                    refine aw_if_eq (tgt := 116) d_M_settles_109 (by decide) (fun c109 => ?_) (fun c109 => ?_)
                    · refine aw_iconst (v := nI 0) d_M_settles_116 (by decide) ?_
                      refine aw_istore_n (L' := [some (.ref 56), some (.int (ab_bl b)), some (.int (nI 0)), some (.int (nI (s)))]) d_M_settles_117 ⟨by decide, rfl⟩ rfl ?_
                      refine aw_iinc (v := nI ((s) + 1)) (L' := [some (.ref 56), some (.int (ab_bl b)), some (.int (nI 0)), some (.int (nI ((s) + 1)))]) d_M_settles_118 rfl (nI_1 _) ⟨by decide, rfl⟩ rfl ?_
                      refine aw_goto (tgt := 64) d_M_settles_121 (by decide) ?_
                      first
                        | (have hnej : ¬ ej N b (prm (N_n N) (s / 298)) (s % 298) := fun z => by
                             have h3 := ((hst _ (show s / 298 < TT (N_n N) by omega) _ (Nat.mod_lt s (show 0 < 298 by decide))).1 z.1).1
                             rw [show 298 * (s / 298) + s % 298 = s by omega] at h3
                             rw [h3] at c82
                             exact absurd c82 (nI_n0 (by have := ((sto_Tb ok (Tb.pr_ hn6 (show s / 298 < TT (N_n N) by omega)) z.1.2.1).nu hn6).1; omega))
                           have em : mo = 0 := (nI_eq (by omega) (by decide)).mp c109
                           rw [show nI 0 = nI mo by rw [em]]
                           exact ihs (s + 1) gm gn lm ly mo (by omega) ar (fun u hu => by obtain ⟨a1, a2, a3⟩ := vs u hu; exact ⟨a1, by omega, a3⟩) hk (hb.skip hnej) (mc.imp (fun z => ⟨z.1, fun t ht j hj hlt hej => by
                               by_cases e : 298 * t + j = s
                               · exact absurd (by rw [show s / 298 = t by omega, show s % 298 = j by omega]; exact hej) hnej
                               · exact z.2 t ht j hj (by omega) hej⟩) id))
                        | (have hnej : ¬ ej N b (prm (N_n N) (s / 298)) (s % 298) := fun z => by
                             have h3 := ((hst _ (show s / 298 < TT (N_n N) by omega) _ (Nat.mod_lt s (show 0 < 298 by decide))).1 z.1).1
                             rw [show 298 * (s / 298) + s % 298 = s by omega] at h3
                             rw [h3] at c82
                             exact absurd c82 (nI_n0 (by have := ((sto_Tb ok (Tb.pr_ hn6 (show s / 298 < TT (N_n N) by omega)) z.1.2.1).nu hn6).1; omega))
                           have em : mo = 1 := by
                             rcases mc with z | z
                             · exact absurd (by rw [z.1]; rfl) c109
                             · exact z.1
                           rw [show nI 1 = nI mo by rw [em]]
                           exact ihs (s + 1) gm gn lm ly mo (by omega) ar (fun u hu => by obtain ⟨a1, a2, a3⟩ := vs u hu; exact ⟨a1, by omega, a3⟩) hk (hb.skip hnej) (mc.imp (fun z => ⟨z.1, fun t ht j hj hlt hej => by
                               by_cases e : 298 * t + j = s
                               · exact absurd (by rw [show s / 298 = t by omega, show s % 298 = j by omega]; exact hej) hnej
                               · exact z.2 t ht j hj (by omega) hej⟩) id))
                        | (have hnej : ¬ ej N b (prm (N_n N) (s / 298)) (s % 298) := fun z => by
                             have := z.2 (ab_bl_1.mp c86)
                             exact absurd c96 (nI_ge this (by decide))
                           have em : mo = 0 := (nI_eq (by omega) (by decide)).mp c109
                           rw [show nI 0 = nI mo by rw [em]]
                           exact ihs (s + 1) gm gn lm ly mo (by omega) ar (fun u hu => by obtain ⟨a1, a2, a3⟩ := vs u hu; exact ⟨a1, by omega, a3⟩) hk (hb.skip hnej) (mc.imp (fun z => ⟨z.1, fun t ht j hj hlt hej => by
                               by_cases e : 298 * t + j = s
                               · exact absurd (by rw [show s / 298 = t by omega, show s % 298 = j by omega]; exact hej) hnej
                               · exact z.2 t ht j hj (by omega) hej⟩) id))
                        | (have hnej : ¬ ej N b (prm (N_n N) (s / 298)) (s % 298) := fun z => by
                             have := z.2 (ab_bl_1.mp c86)
                             exact absurd c96 (nI_ge this (by decide))
                           have em : mo = 1 := by
                             rcases mc with z | z
                             · exact absurd (by rw [z.1]; rfl) c109
                             · exact z.1
                           rw [show nI 1 = nI mo by rw [em]]
                           exact ihs (s + 1) gm gn lm ly mo (by omega) ar (fun u hu => by obtain ⟨a1, a2, a3⟩ := vs u hu; exact ⟨a1, by omega, a3⟩) hk (hb.skip hnej) (mc.imp (fun z => ⟨z.1, fun t ht j hj hlt hej => by
                               by_cases e : 298 * t + j = s
                               · exact absurd (by rw [show s / 298 = t by omega, show s % 298 = j by omega]; exact hej) hnej
                               · exact z.2 t ht j hj (by omega) hej⟩) id))
                        | (have hbt := ab_bl_1.mp c105
                           exact ihs (s + 1) gm2 gn2 _ _ 1 (by omega) ar2 (vs.step ok htS hjS hej rfl) (hk.step _ _ _) (by
                               have hb9 := hb
                               rw [show s = 298 * (s / 298) + s % 298 by omega] at hb9
                               have z := hb9.add ok vs hk htS hjS hej rfl (fun k2 m hk2 hw => by
                                 have := WK_le ok k2 _ m (Tb.pr_ hn6 ((sto_Tb ok (Tb.pr_ hn6 htS) hej.1.2.1).nu hn6).1) hw
                                 omega)
                               rw [show 298 * (s / 298) + s % 298 + 1 = s + 1 by omega] at z
                               exact z) (Or.inr ⟨rfl, bet_round ok vs hk htS hjS hej hbt⟩))
                        | (have hbf := ab_bl_0.mp c105
                           have em : mo = 0 := (nI_eq (by omega) (by decide)).mp c109
                           rw [show nI 0 = nI mo by rw [em]]
                           refine ihs (s + 1) gm2 gn2 _ _ mo (by omega) ar2 (vs.step ok htS hjS hej rfl) (hk.step _ _ _) (by
                               have hb9 := hb
                               rw [show s = 298 * (s / 298) + s % 298 by omega] at hb9
                               have z := hb9.add ok vs hk htS hjS hej rfl (fun k2 m hk2 hw => by
                                 have := WK_le ok k2 _ m (Tb.pr_ hn6 ((sto_Tb ok (Tb.pr_ hn6 htS) hej.1.2.1).nu hn6).1) hw
                                 omega)
                               rw [show 298 * (s / 298) + s % 298 + 1 = s + 1 by omega] at z
                               exact z) (mc.imp (fun z => ⟨z.1, ?_⟩) id)
                           have e1 : lm2 lm ly (s / 298) (num (N_n N) (sto N (prm (N_n N) (s / 298)) (s % 298))) (cs N b (prm (N_n N) (s / 298)) (s % 298)) = lm := if_neg (by rw [hbf]; decide)
                           have e2 : ly2 lm ly (s / 298) (num (N_n N) (sto N (prm (N_n N) (s / 298)) (s % 298))) (cs N b (prm (N_n N) (s / 298)) (s % 298)) = ly := if_neg (by rw [hbf]; decide)
                           rw [e1, e2]
                           intro t ht j hj hlt hej2
                           by_cases e : 298 * t + j = s
                           · rw [show s / 298 = t by omega, show s % 298 = j by omega] at hbf
                             exact hbf
                           · exact z.2 t ht j hj (by omega) hej2)
                        | (have hbf := ab_bl_0.mp c105
                           have em : mo = 1 := by
                             rcases mc with z | z
                             · exact absurd (by rw [z.1]; rfl) c109
                             · exact z.1
                           rw [show nI 1 = nI mo by rw [em]]
                           refine ihs (s + 1) gm2 gn2 _ _ mo (by omega) ar2 (vs.step ok htS hjS hej rfl) (hk.step _ _ _) (by
                               have hb9 := hb
                               rw [show s = 298 * (s / 298) + s % 298 by omega] at hb9
                               have z := hb9.add ok vs hk htS hjS hej rfl (fun k2 m hk2 hw => by
                                 have := WK_le ok k2 _ m (Tb.pr_ hn6 ((sto_Tb ok (Tb.pr_ hn6 htS) hej.1.2.1).nu hn6).1) hw
                                 omega)
                               rw [show 298 * (s / 298) + s % 298 + 1 = s + 1 by omega] at z
                               exact z) (mc.imp (fun z => ⟨z.1, ?_⟩) id)
                           have e1 : lm2 lm ly (s / 298) (num (N_n N) (sto N (prm (N_n N) (s / 298)) (s % 298))) (cs N b (prm (N_n N) (s / 298)) (s % 298)) = lm := if_neg (by rw [hbf]; decide)
                           have e2 : ly2 lm ly (s / 298) (num (N_n N) (sto N (prm (N_n N) (s / 298)) (s % 298))) (cs N b (prm (N_n N) (s / 298)) (s % 298)) = ly := if_neg (by rw [hbf]; decide)
                           rw [e1, e2]
                           intro t ht j hj hlt hej2
                           by_cases e : 298 * t + j = s
                           · rw [show s / 298 = t by omega, show s % 298 = j by omega] at hbf
                             exact hbf
                           · exact z.2 t ht j hj (by omega) hej2)
                    · refine aw_iconst (v := nI 1) d_M_settles_112 (by decide) ?_
                      refine aw_goto (tgt := 117) d_M_settles_113 (by decide) ?_
                      refine aw_istore_n (L' := [some (.ref 56), some (.int (ab_bl b)), some (.int (nI 1)), some (.int (nI (s)))]) d_M_settles_117 ⟨by decide, rfl⟩ rfl ?_
                      refine aw_iinc (v := nI ((s) + 1)) (L' := [some (.ref 56), some (.int (ab_bl b)), some (.int (nI 1)), some (.int (nI ((s) + 1)))]) d_M_settles_118 rfl (nI_1 _) ⟨by decide, rfl⟩ rfl ?_
                      refine aw_goto (tgt := 64) d_M_settles_121 (by decide) ?_
                      first
                        | (have hnej : ¬ ej N b (prm (N_n N) (s / 298)) (s % 298) := fun z => by
                             have h3 := ((hst _ (show s / 298 < TT (N_n N) by omega) _ (Nat.mod_lt s (show 0 < 298 by decide))).1 z.1).1
                             rw [show 298 * (s / 298) + s % 298 = s by omega] at h3
                             rw [h3] at c82
                             exact absurd c82 (nI_n0 (by have := ((sto_Tb ok (Tb.pr_ hn6 (show s / 298 < TT (N_n N) by omega)) z.1.2.1).nu hn6).1; omega))
                           have em : mo = 0 := (nI_eq (by omega) (by decide)).mp c109
                           rw [show nI 0 = nI mo by rw [em]]
                           exact ihs (s + 1) gm gn lm ly mo (by omega) ar (fun u hu => by obtain ⟨a1, a2, a3⟩ := vs u hu; exact ⟨a1, by omega, a3⟩) hk (hb.skip hnej) (mc.imp (fun z => ⟨z.1, fun t ht j hj hlt hej => by
                               by_cases e : 298 * t + j = s
                               · exact absurd (by rw [show s / 298 = t by omega, show s % 298 = j by omega]; exact hej) hnej
                               · exact z.2 t ht j hj (by omega) hej⟩) id))
                        | (have hnej : ¬ ej N b (prm (N_n N) (s / 298)) (s % 298) := fun z => by
                             have h3 := ((hst _ (show s / 298 < TT (N_n N) by omega) _ (Nat.mod_lt s (show 0 < 298 by decide))).1 z.1).1
                             rw [show 298 * (s / 298) + s % 298 = s by omega] at h3
                             rw [h3] at c82
                             exact absurd c82 (nI_n0 (by have := ((sto_Tb ok (Tb.pr_ hn6 (show s / 298 < TT (N_n N) by omega)) z.1.2.1).nu hn6).1; omega))
                           have em : mo = 1 := by
                             rcases mc with z | z
                             · exact absurd (by rw [z.1]; rfl) c109
                             · exact z.1
                           rw [show nI 1 = nI mo by rw [em]]
                           exact ihs (s + 1) gm gn lm ly mo (by omega) ar (fun u hu => by obtain ⟨a1, a2, a3⟩ := vs u hu; exact ⟨a1, by omega, a3⟩) hk (hb.skip hnej) (mc.imp (fun z => ⟨z.1, fun t ht j hj hlt hej => by
                               by_cases e : 298 * t + j = s
                               · exact absurd (by rw [show s / 298 = t by omega, show s % 298 = j by omega]; exact hej) hnej
                               · exact z.2 t ht j hj (by omega) hej⟩) id))
                        | (have hnej : ¬ ej N b (prm (N_n N) (s / 298)) (s % 298) := fun z => by
                             have := z.2 (ab_bl_1.mp c86)
                             exact absurd c96 (nI_ge this (by decide))
                           have em : mo = 0 := (nI_eq (by omega) (by decide)).mp c109
                           rw [show nI 0 = nI mo by rw [em]]
                           exact ihs (s + 1) gm gn lm ly mo (by omega) ar (fun u hu => by obtain ⟨a1, a2, a3⟩ := vs u hu; exact ⟨a1, by omega, a3⟩) hk (hb.skip hnej) (mc.imp (fun z => ⟨z.1, fun t ht j hj hlt hej => by
                               by_cases e : 298 * t + j = s
                               · exact absurd (by rw [show s / 298 = t by omega, show s % 298 = j by omega]; exact hej) hnej
                               · exact z.2 t ht j hj (by omega) hej⟩) id))
                        | (have hnej : ¬ ej N b (prm (N_n N) (s / 298)) (s % 298) := fun z => by
                             have := z.2 (ab_bl_1.mp c86)
                             exact absurd c96 (nI_ge this (by decide))
                           have em : mo = 1 := by
                             rcases mc with z | z
                             · exact absurd (by rw [z.1]; rfl) c109
                             · exact z.1
                           rw [show nI 1 = nI mo by rw [em]]
                           exact ihs (s + 1) gm gn lm ly mo (by omega) ar (fun u hu => by obtain ⟨a1, a2, a3⟩ := vs u hu; exact ⟨a1, by omega, a3⟩) hk (hb.skip hnej) (mc.imp (fun z => ⟨z.1, fun t ht j hj hlt hej => by
                               by_cases e : 298 * t + j = s
                               · exact absurd (by rw [show s / 298 = t by omega, show s % 298 = j by omega]; exact hej) hnej
                               · exact z.2 t ht j hj (by omega) hej⟩) id))
                        | (have hbt := ab_bl_1.mp c105
                           exact ihs (s + 1) gm2 gn2 _ _ 1 (by omega) ar2 (vs.step ok htS hjS hej rfl) (hk.step _ _ _) (by
                               have hb9 := hb
                               rw [show s = 298 * (s / 298) + s % 298 by omega] at hb9
                               have z := hb9.add ok vs hk htS hjS hej rfl (fun k2 m hk2 hw => by
                                 have := WK_le ok k2 _ m (Tb.pr_ hn6 ((sto_Tb ok (Tb.pr_ hn6 htS) hej.1.2.1).nu hn6).1) hw
                                 omega)
                               rw [show 298 * (s / 298) + s % 298 + 1 = s + 1 by omega] at z
                               exact z) (Or.inr ⟨rfl, bet_round ok vs hk htS hjS hej hbt⟩))
                        | (have hbf := ab_bl_0.mp c105
                           have em : mo = 0 := (nI_eq (by omega) (by decide)).mp c109
                           rw [show nI 0 = nI mo by rw [em]]
                           refine ihs (s + 1) gm2 gn2 _ _ mo (by omega) ar2 (vs.step ok htS hjS hej rfl) (hk.step _ _ _) (by
                               have hb9 := hb
                               rw [show s = 298 * (s / 298) + s % 298 by omega] at hb9
                               have z := hb9.add ok vs hk htS hjS hej rfl (fun k2 m hk2 hw => by
                                 have := WK_le ok k2 _ m (Tb.pr_ hn6 ((sto_Tb ok (Tb.pr_ hn6 htS) hej.1.2.1).nu hn6).1) hw
                                 omega)
                               rw [show 298 * (s / 298) + s % 298 + 1 = s + 1 by omega] at z
                               exact z) (mc.imp (fun z => ⟨z.1, ?_⟩) id)
                           have e1 : lm2 lm ly (s / 298) (num (N_n N) (sto N (prm (N_n N) (s / 298)) (s % 298))) (cs N b (prm (N_n N) (s / 298)) (s % 298)) = lm := if_neg (by rw [hbf]; decide)
                           have e2 : ly2 lm ly (s / 298) (num (N_n N) (sto N (prm (N_n N) (s / 298)) (s % 298))) (cs N b (prm (N_n N) (s / 298)) (s % 298)) = ly := if_neg (by rw [hbf]; decide)
                           rw [e1, e2]
                           intro t ht j hj hlt hej2
                           by_cases e : 298 * t + j = s
                           · rw [show s / 298 = t by omega, show s % 298 = j by omega] at hbf
                             exact hbf
                           · exact z.2 t ht j hj (by omega) hej2)
                        | (have hbf := ab_bl_0.mp c105
                           have em : mo = 1 := by
                             rcases mc with z | z
                             · exact absurd (by rw [z.1]; rfl) c109
                             · exact z.1
                           rw [show nI 1 = nI mo by rw [em]]
                           refine ihs (s + 1) gm2 gn2 _ _ mo (by omega) ar2 (vs.step ok htS hjS hej rfl) (hk.step _ _ _) (by
                               have hb9 := hb
                               rw [show s = 298 * (s / 298) + s % 298 by omega] at hb9
                               have z := hb9.add ok vs hk htS hjS hej rfl (fun k2 m hk2 hw => by
                                 have := WK_le ok k2 _ m (Tb.pr_ hn6 ((sto_Tb ok (Tb.pr_ hn6 htS) hej.1.2.1).nu hn6).1) hw
                                 omega)
                               rw [show 298 * (s / 298) + s % 298 + 1 = s + 1 by omega] at z
                               exact z) (mc.imp (fun z => ⟨z.1, ?_⟩) id)
                           have e1 : lm2 lm ly (s / 298) (num (N_n N) (sto N (prm (N_n N) (s / 298)) (s % 298))) (cs N b (prm (N_n N) (s / 298)) (s % 298)) = lm := if_neg (by rw [hbf]; decide)
                           have e2 : ly2 lm ly (s / 298) (num (N_n N) (sto N (prm (N_n N) (s / 298)) (s % 298))) (cs N b (prm (N_n N) (s / 298)) (s % 298)) = ly := if_neg (by rw [hbf]; decide)
                           rw [e1, e2]
                           intro t ht j hj hlt hej2
                           by_cases e : 298 * t + j = s
                           · rw [show s / 298 = t by omega, show s % 298 = j by omega] at hbf
                             exact hbf
                           · exact z.2 t ht j hj (by omega) hej2)
                  · have hsk : sok N (prm (N_n N) (s / 298)) (s % 298) := Classical.byContradiction (fun z => by
                           have h3 := (hst _ (show s / 298 < TT (N_n N) by omega) _ (Nat.mod_lt s (show 0 < 298 by decide))).2 z
                           rw [show 298 * (s / 298) + s % 298 = s by omega] at h3
                           rw [h3] at c82
                           exact c82 (by decide))
                    have hej : ej N b (prm (N_n N) (s / 298)) (s % 298) := ⟨hsk, fun hbt => by
                           first
                             | (rw [hbt] at c86; exact absurd c86 (by decide))
                             | exact Nat.not_le.mp (fun z => c96 (nI_le z (by omega)))⟩
                    have htS : s / 298 < TT (N_n N) := by omega
                    have hjS : s % 298 < 298 := Nat.mod_lt _ (by decide)
                    refine aw_aload_n d_M_settles_99 rfl ?_
                    refine aw_iload_n d_M_settles_100 rfl ?_
                    refine aw_iload_n d_M_settles_101 rfl ?_
                    refine aw_v0 (a := 56) d_M_settles_102 k_M_243 ok_M_betters rfl ⟨rfl, rfl⟩ cl_Model rfl (c_betters (h := (HV (HL h (oM (N_n N) (N_ns N) (N_ra N) (N_se N) me mi (nI (TT (N_n N))) ve ve tl at_ wr fe kp) g1 g2 g3) g7 fs ft)) (N := N) rfl ok (fs := fs) (ft := ft) rfl rfl hst ar (q := 214560 * r9 + s) (by omega) vs (k := s) (by omega) hej) rfl rfl (Nat.le_of_ble_eq_true rfl) (fun r m2 h2 z => ?_)
                    obtain ⟨rfl, em, gm2, gn2, rfl, ar2⟩ := z
                    rw [em]
                    show ab_W _ _ _ _ 105 _ [.int (ab_bl (bet lm ly (s / 298) (num (N_n N) (sto N (prm (N_n N) (s / 298)) (s % 298))) (cs N b (prm (N_n N) (s / 298)) (s % 298))))] _ _ _
                    refine aw_if_ne (tgt := 112) d_M_settles_105 (by decide) (fun c105 => ?_) (fun c105 => ?_)
                    · refine aw_iconst (v := nI 1) d_M_settles_112 (by decide) ?_
                      refine aw_goto (tgt := 117) d_M_settles_113 (by decide) ?_
                      refine aw_istore_n (L' := [some (.ref 56), some (.int (ab_bl b)), some (.int (nI 1)), some (.int (nI (s)))]) d_M_settles_117 ⟨by decide, rfl⟩ rfl ?_
                      refine aw_iinc (v := nI ((s) + 1)) (L' := [some (.ref 56), some (.int (ab_bl b)), some (.int (nI 1)), some (.int (nI ((s) + 1)))]) d_M_settles_118 rfl (nI_1 _) ⟨by decide, rfl⟩ rfl ?_
                      refine aw_goto (tgt := 64) d_M_settles_121 (by decide) ?_
                      first
                        | (have hnej : ¬ ej N b (prm (N_n N) (s / 298)) (s % 298) := fun z => by
                             have h3 := ((hst _ (show s / 298 < TT (N_n N) by omega) _ (Nat.mod_lt s (show 0 < 298 by decide))).1 z.1).1
                             rw [show 298 * (s / 298) + s % 298 = s by omega] at h3
                             rw [h3] at c82
                             exact absurd c82 (nI_n0 (by have := ((sto_Tb ok (Tb.pr_ hn6 (show s / 298 < TT (N_n N) by omega)) z.1.2.1).nu hn6).1; omega))
                           have em : mo = 0 := (nI_eq (by omega) (by decide)).mp c109
                           rw [show nI 0 = nI mo by rw [em]]
                           exact ihs (s + 1) gm gn lm ly mo (by omega) ar (fun u hu => by obtain ⟨a1, a2, a3⟩ := vs u hu; exact ⟨a1, by omega, a3⟩) hk (hb.skip hnej) (mc.imp (fun z => ⟨z.1, fun t ht j hj hlt hej => by
                               by_cases e : 298 * t + j = s
                               · exact absurd (by rw [show s / 298 = t by omega, show s % 298 = j by omega]; exact hej) hnej
                               · exact z.2 t ht j hj (by omega) hej⟩) id))
                        | (have hnej : ¬ ej N b (prm (N_n N) (s / 298)) (s % 298) := fun z => by
                             have h3 := ((hst _ (show s / 298 < TT (N_n N) by omega) _ (Nat.mod_lt s (show 0 < 298 by decide))).1 z.1).1
                             rw [show 298 * (s / 298) + s % 298 = s by omega] at h3
                             rw [h3] at c82
                             exact absurd c82 (nI_n0 (by have := ((sto_Tb ok (Tb.pr_ hn6 (show s / 298 < TT (N_n N) by omega)) z.1.2.1).nu hn6).1; omega))
                           have em : mo = 1 := by
                             rcases mc with z | z
                             · exact absurd (by rw [z.1]; rfl) c109
                             · exact z.1
                           rw [show nI 1 = nI mo by rw [em]]
                           exact ihs (s + 1) gm gn lm ly mo (by omega) ar (fun u hu => by obtain ⟨a1, a2, a3⟩ := vs u hu; exact ⟨a1, by omega, a3⟩) hk (hb.skip hnej) (mc.imp (fun z => ⟨z.1, fun t ht j hj hlt hej => by
                               by_cases e : 298 * t + j = s
                               · exact absurd (by rw [show s / 298 = t by omega, show s % 298 = j by omega]; exact hej) hnej
                               · exact z.2 t ht j hj (by omega) hej⟩) id))
                        | (have hnej : ¬ ej N b (prm (N_n N) (s / 298)) (s % 298) := fun z => by
                             have := z.2 (ab_bl_1.mp c86)
                             exact absurd c96 (nI_ge this (by decide))
                           have em : mo = 0 := (nI_eq (by omega) (by decide)).mp c109
                           rw [show nI 0 = nI mo by rw [em]]
                           exact ihs (s + 1) gm gn lm ly mo (by omega) ar (fun u hu => by obtain ⟨a1, a2, a3⟩ := vs u hu; exact ⟨a1, by omega, a3⟩) hk (hb.skip hnej) (mc.imp (fun z => ⟨z.1, fun t ht j hj hlt hej => by
                               by_cases e : 298 * t + j = s
                               · exact absurd (by rw [show s / 298 = t by omega, show s % 298 = j by omega]; exact hej) hnej
                               · exact z.2 t ht j hj (by omega) hej⟩) id))
                        | (have hnej : ¬ ej N b (prm (N_n N) (s / 298)) (s % 298) := fun z => by
                             have := z.2 (ab_bl_1.mp c86)
                             exact absurd c96 (nI_ge this (by decide))
                           have em : mo = 1 := by
                             rcases mc with z | z
                             · exact absurd (by rw [z.1]; rfl) c109
                             · exact z.1
                           rw [show nI 1 = nI mo by rw [em]]
                           exact ihs (s + 1) gm gn lm ly mo (by omega) ar (fun u hu => by obtain ⟨a1, a2, a3⟩ := vs u hu; exact ⟨a1, by omega, a3⟩) hk (hb.skip hnej) (mc.imp (fun z => ⟨z.1, fun t ht j hj hlt hej => by
                               by_cases e : 298 * t + j = s
                               · exact absurd (by rw [show s / 298 = t by omega, show s % 298 = j by omega]; exact hej) hnej
                               · exact z.2 t ht j hj (by omega) hej⟩) id))
                        | (have hbt := ab_bl_1.mp c105
                           exact ihs (s + 1) gm2 gn2 _ _ 1 (by omega) ar2 (vs.step ok htS hjS hej rfl) (hk.step _ _ _) (by
                               have hb9 := hb
                               rw [show s = 298 * (s / 298) + s % 298 by omega] at hb9
                               have z := hb9.add ok vs hk htS hjS hej rfl (fun k2 m hk2 hw => by
                                 have := WK_le ok k2 _ m (Tb.pr_ hn6 ((sto_Tb ok (Tb.pr_ hn6 htS) hej.1.2.1).nu hn6).1) hw
                                 omega)
                               rw [show 298 * (s / 298) + s % 298 + 1 = s + 1 by omega] at z
                               exact z) (Or.inr ⟨rfl, bet_round ok vs hk htS hjS hej hbt⟩))
                        | (have hbf := ab_bl_0.mp c105
                           have em : mo = 0 := (nI_eq (by omega) (by decide)).mp c109
                           rw [show nI 0 = nI mo by rw [em]]
                           refine ihs (s + 1) gm2 gn2 _ _ mo (by omega) ar2 (vs.step ok htS hjS hej rfl) (hk.step _ _ _) (by
                               have hb9 := hb
                               rw [show s = 298 * (s / 298) + s % 298 by omega] at hb9
                               have z := hb9.add ok vs hk htS hjS hej rfl (fun k2 m hk2 hw => by
                                 have := WK_le ok k2 _ m (Tb.pr_ hn6 ((sto_Tb ok (Tb.pr_ hn6 htS) hej.1.2.1).nu hn6).1) hw
                                 omega)
                               rw [show 298 * (s / 298) + s % 298 + 1 = s + 1 by omega] at z
                               exact z) (mc.imp (fun z => ⟨z.1, ?_⟩) id)
                           have e1 : lm2 lm ly (s / 298) (num (N_n N) (sto N (prm (N_n N) (s / 298)) (s % 298))) (cs N b (prm (N_n N) (s / 298)) (s % 298)) = lm := if_neg (by rw [hbf]; decide)
                           have e2 : ly2 lm ly (s / 298) (num (N_n N) (sto N (prm (N_n N) (s / 298)) (s % 298))) (cs N b (prm (N_n N) (s / 298)) (s % 298)) = ly := if_neg (by rw [hbf]; decide)
                           rw [e1, e2]
                           intro t ht j hj hlt hej2
                           by_cases e : 298 * t + j = s
                           · rw [show s / 298 = t by omega, show s % 298 = j by omega] at hbf
                             exact hbf
                           · exact z.2 t ht j hj (by omega) hej2)
                        | (have hbf := ab_bl_0.mp c105
                           have em : mo = 1 := by
                             rcases mc with z | z
                             · exact absurd (by rw [z.1]; rfl) c109
                             · exact z.1
                           rw [show nI 1 = nI mo by rw [em]]
                           refine ihs (s + 1) gm2 gn2 _ _ mo (by omega) ar2 (vs.step ok htS hjS hej rfl) (hk.step _ _ _) (by
                               have hb9 := hb
                               rw [show s = 298 * (s / 298) + s % 298 by omega] at hb9
                               have z := hb9.add ok vs hk htS hjS hej rfl (fun k2 m hk2 hw => by
                                 have := WK_le ok k2 _ m (Tb.pr_ hn6 ((sto_Tb ok (Tb.pr_ hn6 htS) hej.1.2.1).nu hn6).1) hw
                                 omega)
                               rw [show 298 * (s / 298) + s % 298 + 1 = s + 1 by omega] at z
                               exact z) (mc.imp (fun z => ⟨z.1, ?_⟩) id)
                           have e1 : lm2 lm ly (s / 298) (num (N_n N) (sto N (prm (N_n N) (s / 298)) (s % 298))) (cs N b (prm (N_n N) (s / 298)) (s % 298)) = lm := if_neg (by rw [hbf]; decide)
                           have e2 : ly2 lm ly (s / 298) (num (N_n N) (sto N (prm (N_n N) (s / 298)) (s % 298))) (cs N b (prm (N_n N) (s / 298)) (s % 298)) = ly := if_neg (by rw [hbf]; decide)
                           rw [e1, e2]
                           intro t ht j hj hlt hej2
                           by_cases e : 298 * t + j = s
                           · rw [show s / 298 = t by omega, show s % 298 = j by omega] at hbf
                             exact hbf
                           · exact z.2 t ht j hj (by omega) hej2)
                    · refine aw_iload_n d_M_settles_108 rfl ?_
                      refine aw_if_eq (tgt := 116) d_M_settles_109 (by decide) (fun c109 => ?_) (fun c109 => ?_)
                      · refine aw_iconst (v := nI 0) d_M_settles_116 (by decide) ?_
                        refine aw_istore_n (L' := [some (.ref 56), some (.int (ab_bl b)), some (.int (nI 0)), some (.int (nI (s)))]) d_M_settles_117 ⟨by decide, rfl⟩ rfl ?_
                        refine aw_iinc (v := nI ((s) + 1)) (L' := [some (.ref 56), some (.int (ab_bl b)), some (.int (nI 0)), some (.int (nI ((s) + 1)))]) d_M_settles_118 rfl (nI_1 _) ⟨by decide, rfl⟩ rfl ?_
                        refine aw_goto (tgt := 64) d_M_settles_121 (by decide) ?_
                        first
                          | (have hnej : ¬ ej N b (prm (N_n N) (s / 298)) (s % 298) := fun z => by
                               have h3 := ((hst _ (show s / 298 < TT (N_n N) by omega) _ (Nat.mod_lt s (show 0 < 298 by decide))).1 z.1).1
                               rw [show 298 * (s / 298) + s % 298 = s by omega] at h3
                               rw [h3] at c82
                               exact absurd c82 (nI_n0 (by have := ((sto_Tb ok (Tb.pr_ hn6 (show s / 298 < TT (N_n N) by omega)) z.1.2.1).nu hn6).1; omega))
                             have em : mo = 0 := (nI_eq (by omega) (by decide)).mp c109
                             rw [show nI 0 = nI mo by rw [em]]
                             exact ihs (s + 1) gm gn lm ly mo (by omega) ar (fun u hu => by obtain ⟨a1, a2, a3⟩ := vs u hu; exact ⟨a1, by omega, a3⟩) hk (hb.skip hnej) (mc.imp (fun z => ⟨z.1, fun t ht j hj hlt hej => by
                                 by_cases e : 298 * t + j = s
                                 · exact absurd (by rw [show s / 298 = t by omega, show s % 298 = j by omega]; exact hej) hnej
                                 · exact z.2 t ht j hj (by omega) hej⟩) id))
                          | (have hnej : ¬ ej N b (prm (N_n N) (s / 298)) (s % 298) := fun z => by
                               have h3 := ((hst _ (show s / 298 < TT (N_n N) by omega) _ (Nat.mod_lt s (show 0 < 298 by decide))).1 z.1).1
                               rw [show 298 * (s / 298) + s % 298 = s by omega] at h3
                               rw [h3] at c82
                               exact absurd c82 (nI_n0 (by have := ((sto_Tb ok (Tb.pr_ hn6 (show s / 298 < TT (N_n N) by omega)) z.1.2.1).nu hn6).1; omega))
                             have em : mo = 1 := by
                               rcases mc with z | z
                               · exact absurd (by rw [z.1]; rfl) c109
                               · exact z.1
                             rw [show nI 1 = nI mo by rw [em]]
                             exact ihs (s + 1) gm gn lm ly mo (by omega) ar (fun u hu => by obtain ⟨a1, a2, a3⟩ := vs u hu; exact ⟨a1, by omega, a3⟩) hk (hb.skip hnej) (mc.imp (fun z => ⟨z.1, fun t ht j hj hlt hej => by
                                 by_cases e : 298 * t + j = s
                                 · exact absurd (by rw [show s / 298 = t by omega, show s % 298 = j by omega]; exact hej) hnej
                                 · exact z.2 t ht j hj (by omega) hej⟩) id))
                          | (have hnej : ¬ ej N b (prm (N_n N) (s / 298)) (s % 298) := fun z => by
                               have := z.2 (ab_bl_1.mp c86)
                               exact absurd c96 (nI_ge this (by decide))
                             have em : mo = 0 := (nI_eq (by omega) (by decide)).mp c109
                             rw [show nI 0 = nI mo by rw [em]]
                             exact ihs (s + 1) gm gn lm ly mo (by omega) ar (fun u hu => by obtain ⟨a1, a2, a3⟩ := vs u hu; exact ⟨a1, by omega, a3⟩) hk (hb.skip hnej) (mc.imp (fun z => ⟨z.1, fun t ht j hj hlt hej => by
                                 by_cases e : 298 * t + j = s
                                 · exact absurd (by rw [show s / 298 = t by omega, show s % 298 = j by omega]; exact hej) hnej
                                 · exact z.2 t ht j hj (by omega) hej⟩) id))
                          | (have hnej : ¬ ej N b (prm (N_n N) (s / 298)) (s % 298) := fun z => by
                               have := z.2 (ab_bl_1.mp c86)
                               exact absurd c96 (nI_ge this (by decide))
                             have em : mo = 1 := by
                               rcases mc with z | z
                               · exact absurd (by rw [z.1]; rfl) c109
                               · exact z.1
                             rw [show nI 1 = nI mo by rw [em]]
                             exact ihs (s + 1) gm gn lm ly mo (by omega) ar (fun u hu => by obtain ⟨a1, a2, a3⟩ := vs u hu; exact ⟨a1, by omega, a3⟩) hk (hb.skip hnej) (mc.imp (fun z => ⟨z.1, fun t ht j hj hlt hej => by
                                 by_cases e : 298 * t + j = s
                                 · exact absurd (by rw [show s / 298 = t by omega, show s % 298 = j by omega]; exact hej) hnej
                                 · exact z.2 t ht j hj (by omega) hej⟩) id))
                          | (have hbt := ab_bl_1.mp c105
                             exact ihs (s + 1) gm2 gn2 _ _ 1 (by omega) ar2 (vs.step ok htS hjS hej rfl) (hk.step _ _ _) (by
                                 have hb9 := hb
                                 rw [show s = 298 * (s / 298) + s % 298 by omega] at hb9
                                 have z := hb9.add ok vs hk htS hjS hej rfl (fun k2 m hk2 hw => by
                                   have := WK_le ok k2 _ m (Tb.pr_ hn6 ((sto_Tb ok (Tb.pr_ hn6 htS) hej.1.2.1).nu hn6).1) hw
                                   omega)
                                 rw [show 298 * (s / 298) + s % 298 + 1 = s + 1 by omega] at z
                                 exact z) (Or.inr ⟨rfl, bet_round ok vs hk htS hjS hej hbt⟩))
                          | (have hbf := ab_bl_0.mp c105
                             have em : mo = 0 := (nI_eq (by omega) (by decide)).mp c109
                             rw [show nI 0 = nI mo by rw [em]]
                             refine ihs (s + 1) gm2 gn2 _ _ mo (by omega) ar2 (vs.step ok htS hjS hej rfl) (hk.step _ _ _) (by
                                 have hb9 := hb
                                 rw [show s = 298 * (s / 298) + s % 298 by omega] at hb9
                                 have z := hb9.add ok vs hk htS hjS hej rfl (fun k2 m hk2 hw => by
                                   have := WK_le ok k2 _ m (Tb.pr_ hn6 ((sto_Tb ok (Tb.pr_ hn6 htS) hej.1.2.1).nu hn6).1) hw
                                   omega)
                                 rw [show 298 * (s / 298) + s % 298 + 1 = s + 1 by omega] at z
                                 exact z) (mc.imp (fun z => ⟨z.1, ?_⟩) id)
                             have e1 : lm2 lm ly (s / 298) (num (N_n N) (sto N (prm (N_n N) (s / 298)) (s % 298))) (cs N b (prm (N_n N) (s / 298)) (s % 298)) = lm := if_neg (by rw [hbf]; decide)
                             have e2 : ly2 lm ly (s / 298) (num (N_n N) (sto N (prm (N_n N) (s / 298)) (s % 298))) (cs N b (prm (N_n N) (s / 298)) (s % 298)) = ly := if_neg (by rw [hbf]; decide)
                             rw [e1, e2]
                             intro t ht j hj hlt hej2
                             by_cases e : 298 * t + j = s
                             · rw [show s / 298 = t by omega, show s % 298 = j by omega] at hbf
                               exact hbf
                             · exact z.2 t ht j hj (by omega) hej2)
                          | (have hbf := ab_bl_0.mp c105
                             have em : mo = 1 := by
                               rcases mc with z | z
                               · exact absurd (by rw [z.1]; rfl) c109
                               · exact z.1
                             rw [show nI 1 = nI mo by rw [em]]
                             refine ihs (s + 1) gm2 gn2 _ _ mo (by omega) ar2 (vs.step ok htS hjS hej rfl) (hk.step _ _ _) (by
                                 have hb9 := hb
                                 rw [show s = 298 * (s / 298) + s % 298 by omega] at hb9
                                 have z := hb9.add ok vs hk htS hjS hej rfl (fun k2 m hk2 hw => by
                                   have := WK_le ok k2 _ m (Tb.pr_ hn6 ((sto_Tb ok (Tb.pr_ hn6 htS) hej.1.2.1).nu hn6).1) hw
                                   omega)
                                 rw [show 298 * (s / 298) + s % 298 + 1 = s + 1 by omega] at z
                                 exact z) (mc.imp (fun z => ⟨z.1, ?_⟩) id)
                             have e1 : lm2 lm ly (s / 298) (num (N_n N) (sto N (prm (N_n N) (s / 298)) (s % 298))) (cs N b (prm (N_n N) (s / 298)) (s % 298)) = lm := if_neg (by rw [hbf]; decide)
                             have e2 : ly2 lm ly (s / 298) (num (N_n N) (sto N (prm (N_n N) (s / 298)) (s % 298))) (cs N b (prm (N_n N) (s / 298)) (s % 298)) = ly := if_neg (by rw [hbf]; decide)
                             rw [e1, e2]
                             intro t ht j hj hlt hej2
                             by_cases e : 298 * t + j = s
                             · rw [show s / 298 = t by omega, show s % 298 = j by omega] at hbf
                               exact hbf
                             · exact z.2 t ht j hj (by omega) hej2)
                      · refine aw_iconst (v := nI 1) d_M_settles_112 (by decide) ?_
                        refine aw_goto (tgt := 117) d_M_settles_113 (by decide) ?_
                        refine aw_istore_n (L' := [some (.ref 56), some (.int (ab_bl b)), some (.int (nI 1)), some (.int (nI (s)))]) d_M_settles_117 ⟨by decide, rfl⟩ rfl ?_
                        refine aw_iinc (v := nI ((s) + 1)) (L' := [some (.ref 56), some (.int (ab_bl b)), some (.int (nI 1)), some (.int (nI ((s) + 1)))]) d_M_settles_118 rfl (nI_1 _) ⟨by decide, rfl⟩ rfl ?_
                        refine aw_goto (tgt := 64) d_M_settles_121 (by decide) ?_
                        first
                          | (have hnej : ¬ ej N b (prm (N_n N) (s / 298)) (s % 298) := fun z => by
                               have h3 := ((hst _ (show s / 298 < TT (N_n N) by omega) _ (Nat.mod_lt s (show 0 < 298 by decide))).1 z.1).1
                               rw [show 298 * (s / 298) + s % 298 = s by omega] at h3
                               rw [h3] at c82
                               exact absurd c82 (nI_n0 (by have := ((sto_Tb ok (Tb.pr_ hn6 (show s / 298 < TT (N_n N) by omega)) z.1.2.1).nu hn6).1; omega))
                             have em : mo = 0 := (nI_eq (by omega) (by decide)).mp c109
                             rw [show nI 0 = nI mo by rw [em]]
                             exact ihs (s + 1) gm gn lm ly mo (by omega) ar (fun u hu => by obtain ⟨a1, a2, a3⟩ := vs u hu; exact ⟨a1, by omega, a3⟩) hk (hb.skip hnej) (mc.imp (fun z => ⟨z.1, fun t ht j hj hlt hej => by
                                 by_cases e : 298 * t + j = s
                                 · exact absurd (by rw [show s / 298 = t by omega, show s % 298 = j by omega]; exact hej) hnej
                                 · exact z.2 t ht j hj (by omega) hej⟩) id))
                          | (have hnej : ¬ ej N b (prm (N_n N) (s / 298)) (s % 298) := fun z => by
                               have h3 := ((hst _ (show s / 298 < TT (N_n N) by omega) _ (Nat.mod_lt s (show 0 < 298 by decide))).1 z.1).1
                               rw [show 298 * (s / 298) + s % 298 = s by omega] at h3
                               rw [h3] at c82
                               exact absurd c82 (nI_n0 (by have := ((sto_Tb ok (Tb.pr_ hn6 (show s / 298 < TT (N_n N) by omega)) z.1.2.1).nu hn6).1; omega))
                             have em : mo = 1 := by
                               rcases mc with z | z
                               · exact absurd (by rw [z.1]; rfl) c109
                               · exact z.1
                             rw [show nI 1 = nI mo by rw [em]]
                             exact ihs (s + 1) gm gn lm ly mo (by omega) ar (fun u hu => by obtain ⟨a1, a2, a3⟩ := vs u hu; exact ⟨a1, by omega, a3⟩) hk (hb.skip hnej) (mc.imp (fun z => ⟨z.1, fun t ht j hj hlt hej => by
                                 by_cases e : 298 * t + j = s
                                 · exact absurd (by rw [show s / 298 = t by omega, show s % 298 = j by omega]; exact hej) hnej
                                 · exact z.2 t ht j hj (by omega) hej⟩) id))
                          | (have hnej : ¬ ej N b (prm (N_n N) (s / 298)) (s % 298) := fun z => by
                               have := z.2 (ab_bl_1.mp c86)
                               exact absurd c96 (nI_ge this (by decide))
                             have em : mo = 0 := (nI_eq (by omega) (by decide)).mp c109
                             rw [show nI 0 = nI mo by rw [em]]
                             exact ihs (s + 1) gm gn lm ly mo (by omega) ar (fun u hu => by obtain ⟨a1, a2, a3⟩ := vs u hu; exact ⟨a1, by omega, a3⟩) hk (hb.skip hnej) (mc.imp (fun z => ⟨z.1, fun t ht j hj hlt hej => by
                                 by_cases e : 298 * t + j = s
                                 · exact absurd (by rw [show s / 298 = t by omega, show s % 298 = j by omega]; exact hej) hnej
                                 · exact z.2 t ht j hj (by omega) hej⟩) id))
                          | (have hnej : ¬ ej N b (prm (N_n N) (s / 298)) (s % 298) := fun z => by
                               have := z.2 (ab_bl_1.mp c86)
                               exact absurd c96 (nI_ge this (by decide))
                             have em : mo = 1 := by
                               rcases mc with z | z
                               · exact absurd (by rw [z.1]; rfl) c109
                               · exact z.1
                             rw [show nI 1 = nI mo by rw [em]]
                             exact ihs (s + 1) gm gn lm ly mo (by omega) ar (fun u hu => by obtain ⟨a1, a2, a3⟩ := vs u hu; exact ⟨a1, by omega, a3⟩) hk (hb.skip hnej) (mc.imp (fun z => ⟨z.1, fun t ht j hj hlt hej => by
                                 by_cases e : 298 * t + j = s
                                 · exact absurd (by rw [show s / 298 = t by omega, show s % 298 = j by omega]; exact hej) hnej
                                 · exact z.2 t ht j hj (by omega) hej⟩) id))
                          | (have hbt := ab_bl_1.mp c105
                             exact ihs (s + 1) gm2 gn2 _ _ 1 (by omega) ar2 (vs.step ok htS hjS hej rfl) (hk.step _ _ _) (by
                                 have hb9 := hb
                                 rw [show s = 298 * (s / 298) + s % 298 by omega] at hb9
                                 have z := hb9.add ok vs hk htS hjS hej rfl (fun k2 m hk2 hw => by
                                   have := WK_le ok k2 _ m (Tb.pr_ hn6 ((sto_Tb ok (Tb.pr_ hn6 htS) hej.1.2.1).nu hn6).1) hw
                                   omega)
                                 rw [show 298 * (s / 298) + s % 298 + 1 = s + 1 by omega] at z
                                 exact z) (Or.inr ⟨rfl, bet_round ok vs hk htS hjS hej hbt⟩))
                          | (have hbf := ab_bl_0.mp c105
                             have em : mo = 0 := (nI_eq (by omega) (by decide)).mp c109
                             rw [show nI 0 = nI mo by rw [em]]
                             refine ihs (s + 1) gm2 gn2 _ _ mo (by omega) ar2 (vs.step ok htS hjS hej rfl) (hk.step _ _ _) (by
                                 have hb9 := hb
                                 rw [show s = 298 * (s / 298) + s % 298 by omega] at hb9
                                 have z := hb9.add ok vs hk htS hjS hej rfl (fun k2 m hk2 hw => by
                                   have := WK_le ok k2 _ m (Tb.pr_ hn6 ((sto_Tb ok (Tb.pr_ hn6 htS) hej.1.2.1).nu hn6).1) hw
                                   omega)
                                 rw [show 298 * (s / 298) + s % 298 + 1 = s + 1 by omega] at z
                                 exact z) (mc.imp (fun z => ⟨z.1, ?_⟩) id)
                             have e1 : lm2 lm ly (s / 298) (num (N_n N) (sto N (prm (N_n N) (s / 298)) (s % 298))) (cs N b (prm (N_n N) (s / 298)) (s % 298)) = lm := if_neg (by rw [hbf]; decide)
                             have e2 : ly2 lm ly (s / 298) (num (N_n N) (sto N (prm (N_n N) (s / 298)) (s % 298))) (cs N b (prm (N_n N) (s / 298)) (s % 298)) = ly := if_neg (by rw [hbf]; decide)
                             rw [e1, e2]
                             intro t ht j hj hlt hej2
                             by_cases e : 298 * t + j = s
                             · rw [show s / 298 = t by omega, show s % 298 = j by omega] at hbf
                               exact hbf
                             · exact z.2 t ht j hj (by omega) hej2)
                          | (have hbf := ab_bl_0.mp c105
                             have em : mo = 1 := by
                               rcases mc with z | z
                               · exact absurd (by rw [z.1]; rfl) c109
                               · exact z.1
                             rw [show nI 1 = nI mo by rw [em]]
                             refine ihs (s + 1) gm2 gn2 _ _ mo (by omega) ar2 (vs.step ok htS hjS hej rfl) (hk.step _ _ _) (by
                                 have hb9 := hb
                                 rw [show s = 298 * (s / 298) + s % 298 by omega] at hb9
                                 have z := hb9.add ok vs hk htS hjS hej rfl (fun k2 m hk2 hw => by
                                   have := WK_le ok k2 _ m (Tb.pr_ hn6 ((sto_Tb ok (Tb.pr_ hn6 htS) hej.1.2.1).nu hn6).1) hw
                                   omega)
                                 rw [show 298 * (s / 298) + s % 298 + 1 = s + 1 by omega] at z
                                 exact z) (mc.imp (fun z => ⟨z.1, ?_⟩) id)
                             have e1 : lm2 lm ly (s / 298) (num (N_n N) (sto N (prm (N_n N) (s / 298)) (s % 298))) (cs N b (prm (N_n N) (s / 298)) (s % 298)) = lm := if_neg (by rw [hbf]; decide)
                             have e2 : ly2 lm ly (s / 298) (num (N_n N) (sto N (prm (N_n N) (s / 298)) (s % 298))) (cs N b (prm (N_n N) (s / 298)) (s % 298)) = ly := if_neg (by rw [hbf]; decide)
                             rw [e1, e2]
                             intro t ht j hj hlt hej2
                             by_cases e : 298 * t + j = s
                             · rw [show s / 298 = t by omega, show s % 298 = j by omega] at hbf
                               exact hbf
                             · exact z.2 t ht j hj (by omega) hej2)
        exact loops (298 * TT (N_n N)) 0 gm gn lm ly 0 (by omega) ar vs hk (fun t ht j hj hlt => absurd hlt (Nat.not_lt_zero _)) (Or.inl ⟨rfl, fun t ht j hj hlt => absurd hlt (Nat.not_lt_zero _)⟩)
  have loop0 : ∀ kf t (gm gn : Nat → Int32), t + kf = TT (N_n N) → (∀ u, u < t → gm u = nI (if ow (prm (N_n N) u) (bnd (N_n N) (N_w N) (prm (N_n N) u)) = true then 0 else 1000000000) ∧ gn u = nI 0) → ab_W Y_M_settles none l (fun r m2 h2 => r = none ∧ m2 = m ∧ ∃ g1 g2 g3 g7 fs ft gm gn : Nat → Int32, h2 = HT (HV (HL h (oM (N_n N) (N_ns N) (N_ra N) (N_se N) me mi (nI (TT (N_n N))) ve ve tl at_ wr fe kp) g1 g2 g3) g7 fs ft) gm gn ∧ LY (N_n N) (6 ^ N_n N) g2 g3 ∧ ST N fs ft ∧ ∃ lm ly : Nat → Nat, AR (N_n N) lm ly gm gn ∧ SE N b lm ly) 6 [some (.ref 56), some (.int (ab_bl b)), some (.int (nI (t))), none] [] m (HT (HV (HL h (oM (N_n N) (N_ns N) (N_ra N) (N_se N) me mi (nI (TT (N_n N))) ve ve tl at_ wr fe kp) g1 g2 g3) g7 fs ft) gm gn) (0, 0) := by
    intro kf
    induction kf with
    | zero =>
      intro t gm gn ht e0
      have htn : TT (N_n N) = t := by omega
      subst htn
      refine aw_iload_n d_M_settles_6 rfl ?_
      refine aw_aload_n d_M_settles_7 rfl ?_
      refine aw_get (k := 17) d_M_settles_8 cl_Model k_M_220 (by decide) rfl rfl ?_
      refine aw_icmp_ge (tgt := 54) d_M_settles_11 (by decide) (fun c11 => ?_) (fun c11 => ?_)
      · refine aw_iconst (v := nI 1) d_M_settles_54 (by decide) ?_
        refine aw_istore_n (L' := [some (.ref 56), some (.int (ab_bl b)), some (.int (nI 1)), none]) d_M_settles_55 ⟨by decide, rfl⟩ rfl ?_
        refine rounds (TT (N_n N) + 1) 0 gm gn (fun u => if ow (prm (N_n N) u) (bnd (N_n N) (N_w N) (prm (N_n N) u)) = true then 0 else 1000000000) (fun _ => 0) (by omega) (by omega) e0 (fun u hu => ?_) (fun u hu k2 hk2 m hw => ?_)
        · show ((if ow (prm (N_n N) u) (bnd (N_n N) (N_w N) (prm (N_n N) u)) = true then 0 else 1000000000) = 1000000000 ∨ _) ∧ _ ∧ _
          by_cases z : ow (prm (N_n N) u) (bnd (N_n N) (N_w N) (prm (N_n N) u)) = true
          · rw [if_pos z]
            exact ⟨Or.inr ⟨⟨z, if_pos z⟩, by show (if _ then _ else _) ≤ _; rw [if_pos z]; omega⟩, Nat.zero_le _, by show (if _ then _ else _) ≤ 1000000000; rw [if_pos z]; omega⟩
          · rw [if_neg z]
            exact ⟨Or.inl rfl, Nat.zero_le _, by show (if _ then _ else _) ≤ 1000000000; rw [if_neg z]; omega⟩
        · have ek : k2 = 0 := by omega
          subst ek
          show lxl (if ow (prm (N_n N) u) (bnd (N_n N) (N_w N) (prm (N_n N) u)) = true then 0 else 1000000000) 0 m 0
          rw [if_pos hw.1, hw.2]
          exact Or.inr ⟨rfl, Nat.le_refl _⟩
      · exact absurd (Int32.le_refl _) c11
    | succ kf ih =>
      intro t gm gn ht e0
      refine aw_iload_n d_M_settles_6 rfl ?_
      refine aw_aload_n d_M_settles_7 rfl ?_
      refine aw_get (k := 17) d_M_settles_8 cl_Model k_M_220 (by decide) rfl rfl ?_
      refine aw_icmp_ge (tgt := 54) d_M_settles_11 (by decide) (fun c11 => ?_) (fun c11 => ?_)
      · exact absurd c11 (nI_ge (by omega) (by omega))
      · have hx := Tb.pr_ hn6 (show t < TT (N_n N) by omega)
        refine aw_aload_n d_M_settles_14 rfl ?_
        refine aw_get (k := 20) d_M_settles_15 cl_Model k_M_57 (by decide) rfl rfl ?_
        refine aw_iload_n d_M_settles_18 rfl ?_
        refine aw_aload_n d_M_settles_19 rfl ?_
        refine aw_aload_n d_M_settles_20 rfl ?_
        refine aw_get (k := 18) d_M_settles_21 cl_Model k_M_50 (by decide) rfl rfl ?_
        refine aw_bipush (v := nI 6) d_M_settles_24 (by decide) ?_
        refine aw_iload_n d_M_settles_26 rfl ?_
        refine aw_imul d_M_settles_27 ?_
        rw [pk_mul]
        refine aw_topi (fun v28 ev28 => ?_)
        rw [ev28]
        refine aw_v0i (a := 56) d_M_settles_28 k_M_216 ok_M_isWell rfl ⟨rfl, rfl⟩ cl_Model rfl (c_isWell (h := HT (HV (HL h (oM (N_n N) (N_ns N) (N_ra N) (N_se N) me mi (nI (TT (N_n N))) ve ve tl at_ wr fe kp) g1 g2 g3) g7 fs ft) gm gn) (n := N_n N) rfl hn6 (w := N_w N) (gw := gw) hw aw (A := 68) (NN := 4320) (fr := 6 * t) (g := g2) rfl (by decide) (by omega) hx.1 hx.2 (fun k hk => hly.row (by omega) hk)) rfl rfl (Nat.le_of_ble_eq_true rfl) ?_
        refine aw_if_eq (tgt := 38) d_M_settles_31 (by decide) (fun c31 => ?_) (fun c31 => ?_)
        · refine aw_ldc (v := nI 1000000000) d_M_settles_38 k_M_242 ?_
          refine aw_iastoreN d_M_settles_40 rfl (by omega) (by decide) ?_
          refine aw_aload_n d_M_settles_41 rfl ?_
          refine aw_get (k := 21) d_M_settles_42 cl_Model k_M_60 (by decide) rfl rfl ?_
          refine aw_iload_n d_M_settles_45 rfl ?_
          refine aw_iconst (v := nI 0) d_M_settles_46 (by decide) ?_
          refine aw_iastoreN d_M_settles_47 rfl (by omega) (by decide) ?_
          refine aw_iinc (v := nI ((t) + 1)) (L' := [some (.ref 56), some (.int (ab_bl b)), some (.int (nI ((t) + 1))), none]) d_M_settles_48 rfl (nI_1 _) ⟨by decide, rfl⟩ rfl ?_
          refine aw_goto (tgt := 6) d_M_settles_51 (by decide) ?_
          rw [ht_70, ht_71]
          refine ih (t + 1) _ _ (by omega) (fun u hu => ?_)
          by_cases e : u = t
          · subst e
            rw [pk_us, pk_us]
            rw [← wlp_ow hn6 hx.1 hx.2]
            first
              | (rw [ab_bl_0.mp c31]; exact ⟨rfl, rfl⟩)
              | (rw [ab_bl_1.mp c31]; exact ⟨rfl, rfl⟩)
          · rw [pk_un e, pk_un e]; exact e0 u (by omega)
        · refine aw_iconst (v := nI 0) d_M_settles_34 (by decide) ?_
          refine aw_goto (tgt := 40) d_M_settles_35 (by decide) ?_
          refine aw_iastoreN d_M_settles_40 rfl (by omega) (by decide) ?_
          refine aw_aload_n d_M_settles_41 rfl ?_
          refine aw_get (k := 21) d_M_settles_42 cl_Model k_M_60 (by decide) rfl rfl ?_
          refine aw_iload_n d_M_settles_45 rfl ?_
          refine aw_iconst (v := nI 0) d_M_settles_46 (by decide) ?_
          refine aw_iastoreN d_M_settles_47 rfl (by omega) (by decide) ?_
          refine aw_iinc (v := nI ((t) + 1)) (L' := [some (.ref 56), some (.int (ab_bl b)), some (.int (nI ((t) + 1))), none]) d_M_settles_48 rfl (nI_1 _) ⟨by decide, rfl⟩ rfl ?_
          refine aw_goto (tgt := 6) d_M_settles_51 (by decide) ?_
          rw [ht_70, ht_71]
          refine ih (t + 1) _ _ (by omega) (fun u hu => ?_)
          by_cases e : u = t
          · subst e
            rw [pk_us, pk_us]
            rw [← wlp_ow hn6 hx.1 hx.2]
            first
              | (rw [ab_bl_0.mp c31]; exact ⟨rfl, rfl⟩)
              | (rw [ab_bl_1.mp c31]; exact ⟨rfl, rfl⟩)
          · rw [pk_un e, pk_un e]; exact e0 u (by omega)
  exact aw_heap (ht_h (h := (HV (HL h (oM (N_n N) (N_ns N) (N_ra N) (N_se N) me mi (nI (TT (N_n N))) ve ve tl at_ wr fe kp) g1 g2 g3) g7 fs ft)) h70 h71) (loop0 (TT (N_n N)) 0 dm dn (by omega) (fun u hu => absurd hu (Nat.not_lt_zero _)))
theorem y_fewest {V : VV} {m c : Nat} {h : ab_H} {S : SS} (hM : PM V c h S) (ok : S_ok S) (hc : c < 900) (hVt : V.2.2.2.2 = ST) : CM V Y_M_fewest [] m c h (fun r S2 => SPF S r ∧ S2 = S) := by
  obtain ⟨⟨tab, la, at_, wr, ve, fs, ft, m0, m1, m2, m3, m4, m5, m6⟩, ⟨n0, n1, n2, n3, n4, n5, n6, n7, n8, n9⟩, q1, q2, q3, q4⟩ := id hM
  have hn6 : N_n (S_N S) ≤ 6 := ok.1.1
  have hnT := nI_toInt (show N_n (S_N S) < 2 ^ 31 by omega)
  obtain ⟨_, ⟨d1, h67⟩, ⟨d2, h68⟩, ⟨d3, h69⟩, ⟨dm, h70⟩, ⟨dn, h71⟩, ⟨d7, h72⟩, _⟩ := id q3
  have hTb : Tb (N_n (S_N S)) (N_t (S_N S)) := ⟨ok.1.pm, ok.1.2.2.1⟩
  have hTT := (TT_le hn6).1
  refine ab_C.of (L := [some (.ref 56)]) rfl rfl (Nat.le_of_ble_eq_true rfl) (fun l => ?_)
  refine aw_aload_n d_M_fewest_0 rfl ?_
  refine aw_iconst (v := nI 1) d_M_fewest_1 (by decide) ?_
  have hla : la = nI ve → ST (S_N S) fs ft := fun z => by
    rcases m6 with y | ⟨j, y1, y2, y3⟩
    · rw [y] at z
      exact absurd z (by rw [fa_eq, nI_toInt (by omega)]; rw [show (-1 : Int32).toInt = -1 from by decide]; omega)
    · rw [y2] at z
      have := y3 ((nI_eq (by omega) (by omega)).mp z)
      rw [hVt] at this
      exact this
  refine aw_v0 (a := 56) d_M_fewest_2 k_M_247 ok_M_settles rfl ⟨rfl, rfl⟩ cl_Model m0 (c_settles (N := S_N S) m0 ⟨n0, n1, n2, n3, n4, n5, n6, n7, n8, n9⟩ ok.1 h67 h68 h69 h72 m4 m5 h70 h71 hla true) rfl rfl (Nat.le_of_ble_eq_true rfl) (fun r m2 h2 z => ?_)
  obtain ⟨rfl, em, g1, g2, g3, g7, fs2, ft2, gm, gn, rfl, hly, hst, lm, ly, ar, se⟩ := z
  rw [em]
  show ab_W _ _ _ _ 5 _ [] _ _ _
  refine aw_aload_n d_M_fewest_5 rfl ?_
  refine aw_get (k := 20) d_M_fewest_6 cl_Model k_M_57 (by decide) rfl rfl ?_
  refine aw_aload_n d_M_fewest_9 rfl ?_
  refine aw_v0i (a := 56) d_M_fewest_10 k_M_251 ok_M_tableNow rfl ⟨rfl, rfl⟩ cl_Model rfl (c_tableNow (h := HT (HV (HL h (oM (N_n (S_N S)) (N_ns (S_N S)) (N_ra (S_N S)) (N_se (S_N S)) (N_me (S_N S)) (N_mi (S_N S)) (nI (TT (N_n (S_N S)))) (nI ve) (nI ve) (S_tl S) at_ wr (N_fe (S_N S)) (S_K S).isSome) g1 g2 g3) g7 fs2 ft2) gm gn) (N := S_N S) rfl ⟨n0, n1, n2, n3, n4, n5, n6, n7, n8, n9⟩ ok.1 (g2 := g2) (g3 := g3) rfl rfl hly) rfl rfl (Nat.le_of_ble_eq_true rfl) ?_
  refine aw_ialoadN d_M_fewest_13 rfl (Nat.lt_of_lt_of_le (hTb.nu hn6).1 hTT) (by decide) ?_
  refine aw_ireturn d_M_fewest_14 rfl rfl ?_
  obtain ⟨u1, u2⟩ := hTb.nu hn6
  refine ⟨_, S, rfl, ⟨⟨lm (num (N_n (S_N S)) (N_t (S_N S))), ?_, (ar _ u1).1⟩, rfl⟩, PM.mk2 hc (tab2 := nI (TT (N_n (S_N S)))) (la := nI ve) (at_ := at_) (wr := wr) (ve := ve) (fs := fs2) (ft := ft2) rfl m1 m3 rfl rfl (Or.inr ⟨ve, Nat.le_refl _, rfl, fun _ => by rw [hVt]; exact hst⟩) ⟨n0, n1, n2, n3, n4, n5, n6, n7, n8, n9⟩ q1 q2 q4 (fun k h1 h2 h3 h4 => by unfold scr at h3; rw [HT_ne (by omega) (by omega), HV_ne (by omega), HL_ne (by omega) (by omega)]) ⟨q3.1, ⟨g1, rfl⟩, ⟨g2, rfl⟩, ⟨g3, rfl⟩, ⟨gm, rfl⟩, ⟨gn, rfl⟩, ⟨g7, rfl⟩, q3.2.2.2.2.2.2.2⟩, rfl, fun k hk => by rw [HT_ne (by omega) (by omega), HV_ne (by omega), HL_ne (by omega) (by omega)]⟩
  obtain ⟨s1, s2⟩ := se _ u1
  rw [u2] at s1 s2
  obtain ⟨v, v1, v2⟩ := PW_min hn6 ok.1.2.2.2.2.1 hTb
  have wv := (PW_WK ok.1 v _ hTb).mp v2.1
  have hv := s2 v v wv
  obtain ⟨k2, mm, a1, a2, a3, a4⟩ := WK_min ok.1 v v _ hTb wv
  have hk2 := s2 k2 mm a4
  have := WK_le ok.1 k2 _ mm hTb a4
  rcases s1 with z | ⟨z, _⟩
  · omega
  · have e := WK_pair _ _ _ z
    rw [e] at z
    have pw := (PW_WK ok.1 _ _ hTb).mpr z
    rw [e]
    refine ⟨pw, fun u hu => ?_⟩
    have := s2 u u ((PW_WK ok.1 u _ hTb).mp hu)
    omega
