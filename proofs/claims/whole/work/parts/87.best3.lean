abbrev HR (h : ab_H) (e : ab_E) (g1 g2 g3 : Nat → Int32) : ab_H := ab_set (ab_set (ab_set (ab_set h 50 e) 51 (.inl (6, g1))) 52 (.inl (6, g2))) 53 (.inl (6, g3))
theorem hr_53 (h : ab_H) (e : ab_E) (g1 g2 g3 g : Nat → Int32) : ab_set (HR h e g1 g2 g3) 53 (.inl (6, g)) = HR h e g1 g2 g := ab_set_set _ _ _ _
theorem hr_52 (h : ab_H) (e : ab_E) (g1 g2 g3 g : Nat → Int32) : ab_set (HR h e g1 g2 g3) 52 (.inl (6, g)) = HR h e g1 g g3 := by
  unfold HR
  rw [ab_set_swap (show 53 ≠ 52 by decide), ab_set_set]
theorem hr_51 (h : ab_H) (e : ab_E) (g1 g2 g3 g : Nat → Int32) : ab_set (HR h e g1 g2 g3) 51 (.inl (6, g)) = HR h e g g2 g3 := by
  unfold HR
  rw [ab_set_swap (show 53 ≠ 51 by decide), ab_set_swap (show 52 ≠ 51 by decide), ab_set_set]
theorem hr_50 (h : ab_H) (e e2 : ab_E) (g1 g2 g3 : Nat → Int32) : ab_set (HR h e g1 g2 g3) 50 e2 = HR h e2 g1 g2 g3 := by
  unfold HR
  rw [ab_set_swap (show 53 ≠ 50 by decide), ab_set_swap (show 52 ≠ 50 by decide), ab_set_swap (show 51 ≠ 50 by decide), ab_set_set]
theorem hr_h {h : ab_H} {e : ab_E} {g1 g2 g3 : Nat → Int32} (h0 : h 50 = e) (h1 : h 51 = .inl (6, g1)) (h2 : h 52 = .inl (6, g2)) (h3 : h 53 = .inl (6, g3)) : HR h e g1 g2 g3 = h := by
  unfold HR
  rw [ab_set_eq h0, ab_set_eq h1, ab_set_eq h2, ab_set_eq h3]
theorem HR_ne {h : ab_H} {e : ab_E} {g1 g2 g3 : Nat → Int32} {k : Nat} (b : k < 50 ∨ 53 < k) : HR h e g1 g2 g3 k = h k := by
  unfold HR
  rw [ab_set_ne (by omega), ab_set_ne (by omega), ab_set_ne (by omega), ab_set_ne (by omega)]
/-- what is known of the rail -/
def RV (N : NS) (gr su : Int32) (g : Nat → Int32) : Prop := gr = nI (bst N (TT (N_n N))).2.1 ∧ su = nI (bst N (TT (N_n N))).2.2 ∧ ∀ k, k < 6 → g k = nI (prm (N_n N) (bst N (TT (N_n N))).1 k)
theorem PX.rl {V : VV} {m : Nat} {h h2 : ab_H} {S : SS} (hX : PX V m h S) (q : ∀ k, k < 50 ∨ 53 < k → h2 k = h k) (r : PXr V h2 (S_N S)) : PX V m h2 S := by
  obtain ⟨p0, p1, p2, p3, p4, p5, p6, p7⟩ := hX
  exact ⟨p0.fr (fun k _ _ => q k (by omega)), p1.fr (fun k _ _ => q k (by omega)), p2.fr (fun k _ _ => q k (by omega)), p3.fr (fun k _ _ => q k (by omega)), p4.fr (fun k _ _ => q k (by omega)), p5.fr (fun k _ _ => q k (by omega)), r, p7.fr (fun k _ => q k (by omega))⟩
theorem btr_i {a b c d : Nat} (ha : a ≤ 1440) (hb : b ≤ 1440) (hc : c ≤ 1440) (hd : d ≤ 1440) : (nI a < nI c ∨ (nI a = nI c ∧ nI b < nI d)) ↔ btr a b c d := by
  unfold btr
  rw [nI_ltI (by omega) (by omega), nI_eq (by omega) (by omega), nI_ltI (by omega) (by omega)]
theorem c_Rail_reckon {m : Nat} {h : ab_H} {kn : Bool} {gr su : Int32} (h50 : h 50 = oR kn gr su) {N : NS} (hX : NX h 2 N) (ok : N_ok N) (hn0 : 1 ≤ N_n N) {g1 g2 g3 : Nat → Int32} (h51 : h 51 = .inl (6, g1)) (h52 : h 52 = .inl (6, g2)) (h53 : h 53 = .inl (6, g3)) : ab_C Y_Rail_reckon [.ref 50, .ref 2] m h (fun r m2 h2 => r = none ∧ m2 = m ∧ ∃ (gr su : Int32) (g1 g2 g3 : Nat → Int32), h2 = HR h (oR true gr su) g1 g2 g3 ∧ RV N gr su g1) := by
  obtain ⟨n0, ⟨gx, hx, ax⟩, ⟨gy, hy, ay⟩, ⟨gm, hm, am⟩, ⟨gl, hl, al⟩, ⟨ga, ha, aa⟩, ⟨gi, hi, ai⟩, ⟨gj, hj0, aj⟩, ⟨gf, hf0, af⟩⟩ := id hX
  have hn6 : N_n N ≤ 6 := ok.1
  have hns : N_ns N ≤ 4 := ok.2.2.2.2.2.2.2.2.1
  have hpm := ok.pm
  have hw6 := ok.w6
  have hfx := ok.2.2.1
  have bx := ok.2.2.2.2.2.1
  have bi := ok.2.2.2.2.2.2.2.2.2.1
  have hfe := ok.fe6
  have hT7 := (TT_le hn6).1
  refine ab_C.of (L := [some (.ref 50), some (.ref 2), none]) rfl rfl (Nat.le_of_ble_eq_true rfl) (fun l => ?_)
  have mid : ∀ (g1 g2 g3 : Nat → Int32), (∀ k, k < 6 → g2 k = nI k) → (∀ f, f < N_fe N → g3 f = nI (pk (tgs (N_ff N f)))) → ab_W Y_Rail_reckon none l (fun r m2 h2 => r = none ∧ m2 = m ∧ ∃ (gr su : Int32) (g1 g2 g3 : Nat → Int32), h2 = HR h (oR true gr su) g1 g2 g3 ∧ RV N gr su g1) 52 [some (.ref 50), some (.ref 2), some (.int (nI (N_fe N)))] [] m (HR h (oR kn gr su) g1 g2 g3) (0, 0) := by
    intro g1 g2 g3 e2 e3
    refine aw_aload_n d_Rail_reckon_52 rfl ?_
    refine aw_ldc (v := nI 2147483647) d_Rail_reckon_53 k_Rail_36 ?_
    refine aw_put (k := 1) (fs' := [.int (ab_bl kn), .int (nI 2147483647), .int su, .ref 51, .ref 52, .ref 53]) d_Rail_reckon_55 cl_Rail k_Rail_37 (by decide) rfl ⟨rfl, rfl⟩ rfl (Nat.le_of_ble_eq_true rfl) rfl ?_
    rw [hr_50]
    refine aw_aload_n d_Rail_reckon_58 rfl ?_
    refine aw_ldc (v := nI 2147483647) d_Rail_reckon_59 k_Rail_36 ?_
    refine aw_put (k := 2) (fs' := [.int (ab_bl kn), .int (nI 2147483647), .int (nI 2147483647), .ref 51, .ref 52, .ref 53]) d_Rail_reckon_61 cl_Rail k_Rail_40 (by decide) rfl ⟨rfl, rfl⟩ rfl (Nat.le_of_ble_eq_true rfl) rfl ?_
    rw [hr_50]
    refine aw_aload_n d_Rail_reckon_64 rfl ?_
    refine aw_aload_n d_Rail_reckon_65 rfl ?_
    have p0 := prm_t hn6 (TT_le hn6).2
    refine aw_v0 (a := 50) d_Rail_reckon_66 k_Rail_43 ok_Rail_weigh rfl ⟨rfl, rfl⟩ cl_Rail rfl (c_weigh (h := HR h (oR kn (nI 2147483647) (nI 2147483647)) g1 g2 g3) (kn := kn) (gr := nI 2147483647) (su := nI 2147483647) rfl (hX.fr (fun k _ _ => HR_ne (by omega))) ok (g1 := g1) rfl (g2 := g2) rfl (g3 := g3) rfl p0.1 (by rw [prm_0 hn6]; exact e2) e3) rfl rfl (Nat.le_of_ble_eq_true rfl) (fun r m2 h2 q => ?_)
    obtain ⟨rfl, em, hw⟩ := q
    rw [em]
    show ab_W _ _ _ _ 69 _ [] _ _ _
    refine aw_iconst (v := nI 1) d_Rail_reckon_69 (by decide) ?_
    refine aw_istore_n (L' := [some (.ref 50), some (.ref 2), some (.int (nI 1))]) d_Rail_reckon_70 ⟨by decide, rfl⟩ rfl ?_
    have loopc : ∀ kf t (g1 g2 : Nat → Int32), t + kf = 720 → 1 ≤ t → t ≤ TT (N_n N) → (∀ k, k < 6 → g1 k = nI (prm (N_n N) (bst N t).1 k)) → (∀ k, k < 6 → g2 k = nI (prm (N_n N) (t - 1) k)) → ab_W Y_Rail_reckon none l (fun r m2 h2 => r = none ∧ m2 = m ∧ ∃ (gr su : Int32) (g1 g2 g3 : Nat → Int32), h2 = HR h (oR true gr su) g1 g2 g3 ∧ RV N gr su g1) 71 [some (.ref 50), some (.ref 2), some (.int (nI (t)))] [] m (HR h (oR kn (nI (bst N t).2.1) (nI (bst N t).2.2)) g1 g2 g3) (0, 0) := by
      intro kf
      induction kf with
      | zero =>
        intro t g1 g2 ht ht1 ht2 e0 e2
        have htn : 720 = t := by omega
        subst htn
        refine aw_iload_n d_Rail_reckon_71 rfl ?_
        refine aw_sipush (v := nI 720) d_Rail_reckon_72 (by decide) ?_
        refine aw_icmp_ge (tgt := 100) d_Rail_reckon_75 (by decide) (fun c75 => ?_) (fun c75 => ?_)
        · refine aw_aload_n d_Rail_reckon_100 rfl ?_
          refine aw_iconst (v := nI 1) d_Rail_reckon_101 (by decide) ?_
          refine aw_put (k := 0) (fs' := [.int (nI 1), .int (nI (bst N 720).2.1), .int (nI (bst N 720).2.2), .ref 51, .ref 52, .ref 53]) d_Rail_reckon_102 cl_Rail k_Rail_54 (by decide) rfl ⟨rfl, rfl⟩ rfl (Nat.le_of_ble_eq_true rfl) rfl ?_
          refine aw_return d_Rail_reckon_105 rfl ?_
          have eT : TT (N_n N) = 720 := by omega
          rw [hr_50]
          exact ⟨rfl, rfl, _, _, g1, g2, g3, rfl, by rw [eT], by rw [eT], by rw [eT]; exact e0⟩
        · exact absurd (Int32.le_refl _) c75
      | succ kf ih =>
        intro t g1 g2 ht ht1 ht2 e0 e2
        refine aw_iload_n d_Rail_reckon_71 rfl ?_
        refine aw_sipush (v := nI 720) d_Rail_reckon_72 (by decide) ?_
        refine aw_icmp_ge (tgt := 100) d_Rail_reckon_75 (by decide) (fun c75 => ?_) (fun c75 => ?_)
        · exact absurd c75 (nI_ge (by omega) (by omega))
        · refine aw_aload_n d_Rail_reckon_78 rfl ?_
          refine aw_aload_n d_Rail_reckon_79 rfl ?_
          refine aw_get (k := 0) d_Rail_reckon_80 cl_Night k_Rail_47 (by decide) n0 rfl ?_
          have pt := prm_t hn6 (show t - 1 < TT (N_n N) by omega)
          refine aw_v0 (a := 50) d_Rail_reckon_83 k_Rail_50 ok_Rail_goOn rfl ⟨rfl, rfl⟩ cl_Rail rfl (c_goOn (h := HR h (oR kn (nI (bst N t).2.1) (nI (bst N t).2.2)) g1 g2 g3) (kn := kn) (gr := nI (bst N t).2.1) (su := nI (bst N t).2.2) rfl hn0 hn6 pt.1 (g := g2) rfl e2) rfl rfl (Nat.le_of_ble_eq_true rfl) (fun r m2 h2 q => ?_)
          obtain ⟨em, hq⟩ := q
          rw [em]
          obtain ⟨v, er⟩ : ∃ v, r = some (.int v) := by rcases hq with ⟨_, e, _⟩ | ⟨_, e, _⟩ <;> exact ⟨_, e⟩
          subst er
          show ab_W _ _ _ _ 86 _ [.int v] _ _ _
          refine aw_if_eq (tgt := 100) d_Rail_reckon_86 (by decide) (fun c86 => ?_) (fun c86 => ?_)
          · rcases hq with hq | hq
            rotate_left
            · exact absurd c86 (by rw [Value.int.inj (Option.some.inj hq.2.1)]; decide)
            obtain ⟨z, er, eh⟩ := hq
            subst eh
            have eT := (prm_next hn0 hn6 (show t - 1 < TT (N_n N) by omega)).1 z
            refine aw_aload_n d_Rail_reckon_100 rfl ?_
            refine aw_iconst (v := nI 1) d_Rail_reckon_101 (by decide) ?_
            refine aw_put (k := 0) (fs' := [.int (nI 1), .int (nI (bst N t).2.1), .int (nI (bst N t).2.2), .ref 51, .ref 52, .ref 53]) d_Rail_reckon_102 cl_Rail k_Rail_54 (by decide) rfl ⟨rfl, rfl⟩ rfl (Nat.le_of_ble_eq_true rfl) rfl ?_
            refine aw_return d_Rail_reckon_105 rfl ?_
            have eT : TT (N_n N) = t := by omega
            rw [hr_50]
            exact ⟨rfl, rfl, _, _, g1, g2, g3, rfl, by rw [eT], by rw [eT], by rw [eT]; exact e0⟩
          · rcases hq with hq | hq
            · exact absurd (Value.int.inj (Option.some.inj hq.2.1)) c86
            obtain ⟨z, er, g4, eh, eg4⟩ := hq
            rw [hr_52] at eh
            subst eh
            have pn := (prm_next hn0 hn6 (show t - 1 < TT (N_n N) by omega)).2 z
            rw [show t - 1 + 1 = t by omega] at pn
            have pt2 := prm_t hn6 pn.1
            have eg4' : ∀ k, k < 6 → g4 k = nI (prm (N_n N) t k) := by rw [pn.2]; exact eg4
            refine aw_aload_n d_Rail_reckon_89 rfl ?_
            refine aw_aload_n d_Rail_reckon_90 rfl ?_
            refine aw_v0 (a := 50) d_Rail_reckon_91 k_Rail_43 ok_Rail_weigh rfl ⟨rfl, rfl⟩ cl_Rail rfl (c_weigh (h := HR h (oR kn (nI (bst N t).2.1) (nI (bst N t).2.2)) g1 g4 g3) (kn := kn) (gr := nI (bst N t).2.1) (su := nI (bst N t).2.2) rfl (hX.fr (fun k _ _ => HR_ne (by omega))) ok (g1 := g1) rfl (g2 := g4) rfl (g3 := g3) rfl pt2.1 eg4' e3) rfl rfl (Nat.le_of_ble_eq_true rfl) (fun r m2 h2 q => ?_)
            obtain ⟨rfl, em, hw⟩ := q
            rw [em]
            show ab_W _ _ _ _ 94 _ [] _ _ _
            refine aw_iinc (v := nI ((t) + 1)) (L' := [some (.ref 50), some (.ref 2), some (.int (nI ((t) + 1)))]) d_Rail_reckon_94 rfl (nI_1 _) ⟨by decide, rfl⟩ rfl ?_
            refine aw_goto (tgt := 71) d_Rail_reckon_97 (by decide) ?_
            have mx := mxh_le ok pt2.1 _ (Nat.le_refl (N_fe N))
            have sm := smh_le ok pt2.1 (Nat.le_refl (N_fe N))
            have bt := bst_t ok t (by omega)
            rcases hw with ⟨yes, a1, e1, ea⟩ | ⟨no, e1⟩
            · have e : bst N (t + 1) = (t, mxh N (prm (N_n N) t) (N_fe N), smh N (prm (N_n N) t) (N_fe N)) := if_pos ((btr_i (by omega) (by omega) (by omega) (by omega)).mp yes)
              rw [hr_50, hr_51] at e1
              rw [e1]
              have z := ih (t + 1) a1 g4 (by omega) (by omega) pn.1 (by rw [e]; exact ea) (by rw [show t + 1 - 1 = t by omega]; exact eg4')
              rw [e] at z
              exact z
            · have e : bst N (t + 1) = bst N t := if_neg (fun z => no ((btr_i (by omega) (by omega) (by omega) (by omega)).mpr z))
              rw [e1]
              have z := ih (t + 1) g1 g4 (by omega) (by omega) pn.1 (by rw [e]; exact e0) (by rw [show t + 1 - 1 = t by omega]; exact eg4')
              rw [e] at z
              exact z
    have mx := mxh_le ok p0.1 _ (Nat.le_refl (N_fe N))
    rcases hw with ⟨yes, a1, e1, ea⟩ | ⟨no, e1⟩
    · rw [hr_50, hr_51] at e1
      rw [e1]
      have z := loopc 719 1 a1 g2 (by omega) (Nat.le_refl _) (TT_le hn6).2 (by rw [bst_1]; exact ea) (by rw [prm_0 hn6]; exact e2)
      rw [bst_1] at z
      exact z
    · exact absurd (Or.inl (nI_lt (by omega) (by decide))) no
  have contB : ∀ (g1 g2 g3 : Nat → Int32), (∀ k, k < 6 → g2 k = nI k) → ab_W Y_Rail_reckon none l (fun r m2 h2 => r = none ∧ m2 = m ∧ ∃ (gr su : Int32) (g1 g2 g3 : Nat → Int32), h2 = HR h (oR true gr su) g1 g2 g3 ∧ RV N gr su g1) 23 [some (.ref 50), some (.ref 2), some (.int (nI 0))] [] m (HR h (oR kn gr su) g1 g2 g3) (0, 0) := by
    intro g1 g2 g3 e2
    have loopb : ∀ kf f (g3 : Nat → Int32), f + kf = N_fe N → (∀ q, q < f → g3 q = nI (pk (tgs (N_ff N q)))) → ab_W Y_Rail_reckon none l (fun r m2 h2 => r = none ∧ m2 = m ∧ ∃ (gr su : Int32) (g1 g2 g3 : Nat → Int32), h2 = HR h (oR true gr su) g1 g2 g3 ∧ RV N gr su g1) 23 [some (.ref 50), some (.ref 2), some (.int (nI (f)))] [] m (HR h (oR kn gr su) g1 g2 g3) (0, 0) := by
      intro kf
      induction kf with
      | zero =>
        intro f g3 hf e3
        have hfn : N_fe N = f := by omega
        subst hfn
        refine aw_iload_n d_Rail_reckon_23 rfl ?_
        refine aw_aload_n d_Rail_reckon_24 rfl ?_
        refine aw_get (k := 15) d_Rail_reckon_25 cl_Night k_Rail_21 (by decide) n0 rfl ?_
        refine aw_icmp_ge (tgt := 52) d_Rail_reckon_28 (by decide) (fun c28 => ?_) (fun c28 => ?_)
        · exact mid g1 g2 g3 e2 e3
        · exact absurd (Int32.le_refl _) c28
      | succ kf ihb =>
        intro f g3 hf e3
        refine aw_iload_n d_Rail_reckon_23 rfl ?_
        refine aw_aload_n d_Rail_reckon_24 rfl ?_
        refine aw_get (k := 15) d_Rail_reckon_25 cl_Night k_Rail_21 (by decide) n0 rfl ?_
        refine aw_icmp_ge (tgt := 52) d_Rail_reckon_28 (by decide) (fun c28 => ?_) (fun c28 => ?_)
        · exact absurd c28 (nI_ge (by omega) (by omega))
        · refine aw_aload_n d_Rail_reckon_31 rfl ?_
          refine aw_get (k := 5) d_Rail_reckon_32 cl_Rail k_Rail_18 (by decide) rfl rfl ?_
          refine aw_iload_n d_Rail_reckon_35 rfl ?_
          refine aw_aload_n d_Rail_reckon_36 rfl ?_
          refine aw_get (k := 16) d_Rail_reckon_37 cl_Night k_Rail_27 (by decide) n0 rfl ?_
          refine aw_iload_n d_Rail_reckon_40 rfl ?_
          refine aw_ialoadN d_Rail_reckon_41 hf0 (by omega) (by decide) ?_
          rw [af f (by omega)]
          refine aw_s0i d_Rail_reckon_42 k_Rail_30 ok_Slips_targetsOf rfl ⟨rfl, rfl⟩ (c_targetsOf hn6 (ok.fe f (by omega))) rfl rfl (Nat.le_of_ble_eq_true rfl) ?_
          refine aw_iastoreN d_Rail_reckon_45 rfl (by omega) (by decide) ?_
          refine aw_iinc (v := nI ((f) + 1)) (L' := [some (.ref 50), some (.ref 2), some (.int (nI ((f) + 1)))]) d_Rail_reckon_46 rfl (nI_1 _) ⟨by decide, rfl⟩ rfl ?_
          refine aw_goto (tgt := 23) d_Rail_reckon_49 (by decide) ?_
          rw [hr_53]
          exact ihb (f + 1) _ (by omega) (fun q hq => by
            by_cases e : q = f
            · subst e; exact pk_us
            · rw [pk_un e]; exact e3 q (by omega))
    exact loopb (N_fe N) 0 g3 (by omega) (fun q hq => absurd hq (Nat.not_lt_zero _))
  have loopa : ∀ kf j (g2 : Nat → Int32), j + kf = 6 → (∀ q, q < j → g2 q = nI q) → ab_W Y_Rail_reckon none l (fun r m2 h2 => r = none ∧ m2 = m ∧ ∃ (gr su : Int32) (g1 g2 g3 : Nat → Int32), h2 = HR h (oR true gr su) g1 g2 g3 ∧ RV N gr su g1) 2 [some (.ref 50), some (.ref 2), some (.int (nI (j)))] [] m (HR h (oR kn gr su) g1 g2 g3) (0, 0) := by
    intro kf
    induction kf with
    | zero =>
      intro j g2 hj e2
      have hjn : 6 = j := by omega
      subst hjn
      refine aw_iload_n d_Rail_reckon_2 rfl ?_
      refine aw_bipush (v := nI 6) d_Rail_reckon_3 (by decide) ?_
      refine aw_icmp_ge (tgt := 21) d_Rail_reckon_5 (by decide) (fun c5 => ?_) (fun c5 => ?_)
      · refine aw_iconst (v := nI 0) d_Rail_reckon_21 (by decide) ?_
        refine aw_istore_n (L' := [some (.ref 50), some (.ref 2), some (.int (nI 0))]) d_Rail_reckon_22 ⟨by decide, rfl⟩ rfl ?_
        exact contB g1 g2 g3 e2
      · exact absurd (Int32.le_refl _) c5
    | succ kf ih =>
      intro j g2 hj e2
      refine aw_iload_n d_Rail_reckon_2 rfl ?_
      refine aw_bipush (v := nI 6) d_Rail_reckon_3 (by decide) ?_
      refine aw_icmp_ge (tgt := 21) d_Rail_reckon_5 (by decide) (fun c5 => ?_) (fun c5 => ?_)
      · exact absurd c5 (nI_ge (by omega) (by omega))
      · refine aw_aload_n d_Rail_reckon_8 rfl ?_
        refine aw_get (k := 4) d_Rail_reckon_9 cl_Rail k_Rail_15 (by decide) rfl rfl ?_
        refine aw_iload_n d_Rail_reckon_12 rfl ?_
        refine aw_iload_n d_Rail_reckon_13 rfl ?_
        refine aw_iastoreN d_Rail_reckon_14 rfl (by omega) (by decide) ?_
        refine aw_iinc (v := nI ((j) + 1)) (L' := [some (.ref 50), some (.ref 2), some (.int (nI ((j) + 1)))]) d_Rail_reckon_15 rfl (nI_1 _) ⟨by decide, rfl⟩ rfl ?_
        refine aw_goto (tgt := 2) d_Rail_reckon_18 (by decide) ?_
        rw [hr_52]
        exact ih (j + 1) _ (by omega) (fun q hq => by
          by_cases e : q = j
          · subst e; exact pk_us
          · rw [pk_un e]; exact e2 q (by omega))
  refine aw_iconst (v := nI 0) d_Rail_reckon_0 (by decide) ?_
  refine aw_istore_n (L' := [some (.ref 50), some (.ref 2), some (.int (nI 0))]) d_Rail_reckon_1 ⟨by decide, rfl⟩ rfl ?_
  exact aw_heap (hr_h h50 h51 h52 h53) (loopa 6 0 g2 (by omega) (fun q hq => absurd hq (Nat.not_lt_zero _)))
theorem x_best {V : VV} {m : Nat} {h : ab_H} {S : SS} (hX : PX V m h S) (ok : S_ok S) (hVr : V.2.2.1 = RV) (w : Int32) : CX V Y_Coat_best [.int w] m h (fun r S2 => (r, S2) = sp_best S w) := by
  obtain ⟨⟨a0, ⟨n0, n1, n2, n3, n4, n5, n6, n7, n8⟩, a2⟩, p1, p2, p3, p4, p5, p6, p7⟩ := id hX
  have hn6 : N_n (S_N S) ≤ 6 := ok.1.1
  have hnT := nI_toInt (show N_n (S_N S) < 2 ^ 31 by omega)
  obtain ⟨kn, gr, su, g1, h50, h51, ⟨g2, h52⟩, ⟨g3, h53⟩, hv⟩ := id p6
  rw [hVr] at hv
  have hfe := ok.1.fe6
  refine ab_C.of (L := [some (.ref 1), some (.int w)]) rfl rfl (Nat.le_of_ble_eq_true rfl) (fun l => ?_)
  have cont : ∀ (h' : ab_H) (kn : Bool) (gr su : Int32) (g1 : Nat → Int32), h' 1 = oO (S_K S).isSome → h' 50 = oR kn gr su → h' 51 = .inl (6, g1) → RV (S_N S) gr su g1 → PX V m h' S → (∀ k, 56 ≤ k → k ≤ 88 → h' k = h k) → ir w (-2) (N_n (S_N S) - 1 : Int) → ¬ (N_n (S_N S) = 0 ∨ N_fe (S_N S) = 0) → ab_W Y_Coat_best none l (fun r m2 h2 => ∃ (v : Int32) (S2 : SS), r = some (.int v) ∧ (v, S2) = sp_best S w ∧ PX V m2 h2 S2 ∧ m ≤ m2 ∧ ∀ k, 56 ≤ k → k ≤ 88 → h2 k = h k) 63 [some (.ref 1), some (.int w)] [] m h' (0, 0) := by
    intro h' kn gr su g1 e1 e50 e51 rv hX2 hfr irw ne0
    refine aw_iload_n d_Coat_best_63 rfl ?_
    refine aw_iconst (v := (-1)) d_Coat_best_64 (by decide) ?_
    refine aw_icmp_ne (tgt := 76) d_Coat_best_65 (by decide) (fun c65 => ?_) (fun c65 => ?_)
    · refine aw_iload_n d_Coat_best_76 rfl ?_
      refine aw_bipush (v := (-2)) d_Coat_best_77 (by decide) ?_
      refine aw_icmp_ne (tgt := 92) d_Coat_best_79 (by decide) (fun c79 => ?_) (fun c79 => ?_)
      · obtain ⟨j, hj, rfl⟩ : ∃ j, j < N_n (S_N S) ∧ w = nI j := by
          refine irN ⟨?_, irw.2⟩
          have i1 := irw.1
          rw [fa_eq] at c65 c79
          rw [show ((-1 : Int32)).toInt = -1 from by decide] at c65
          rw [show ((-2 : Int32)).toInt = -2 from by decide] at c79
          omega
        refine aw_aload_n d_Coat_best_92 rfl ?_
        refine aw_get (k := 9) d_Coat_best_93 cl_Coat k_Coat_61 (by decide) e1 rfl ?_
        refine aw_get (k := 3) d_Coat_best_96 cl_Rail k_Coat_296 (by decide) e50 rfl ?_
        refine aw_iload_n d_Coat_best_99 rfl ?_
        refine aw_ialoadN d_Coat_best_100 e51 (by omega) (by decide) ?_
        refine aw_ireturn d_Coat_best_101 rfl rfl ?_
        refine ⟨_, S, rfl, ?_, hX2, Nat.le_refl _, hfr⟩
        unfold sp_best
        rw [if_pos irw, if_neg ne0]
        rw [if_neg c65]
        first
          | (rw [if_pos c79, rv.2.1]; done)
          | (rw [if_neg c79, rv.2.2 j (by omega), cl_nI (by omega)]; done)
      · refine aw_aload_n d_Coat_best_82 rfl ?_
        refine aw_get (k := 9) d_Coat_best_83 cl_Coat k_Coat_61 (by decide) e1 rfl ?_
        refine aw_get (k := 2) d_Coat_best_86 cl_Rail k_Coat_293 (by decide) e50 rfl ?_
        refine aw_goto (tgt := 101) d_Coat_best_89 (by decide) ?_
        refine aw_ireturn d_Coat_best_101 rfl rfl ?_
        refine ⟨_, S, rfl, ?_, hX2, Nat.le_refl _, hfr⟩
        unfold sp_best
        rw [if_pos irw, if_neg ne0]
        rw [if_neg c65]
        first
          | (rw [if_pos c79, rv.2.1]; done)
          | (rw [if_neg c79, rv.2.2 j (by omega), cl_nI (by omega)]; done)
    · refine aw_aload_n d_Coat_best_68 rfl ?_
      refine aw_get (k := 9) d_Coat_best_69 cl_Coat k_Coat_61 (by decide) e1 rfl ?_
      refine aw_get (k := 1) d_Coat_best_72 cl_Rail k_Coat_290 (by decide) e50 rfl ?_
      refine aw_ireturn d_Coat_best_75 rfl rfl ?_
      refine ⟨_, S, rfl, ?_, hX2, Nat.le_refl _, hfr⟩
      unfold sp_best
      rw [if_pos irw, if_neg ne0]
      rw [if_pos c65, rv.1]
  refine aw_iload_n d_Coat_best_0 rfl ?_
  refine aw_bipush (v := (-2)) d_Coat_best_1 (by decide) ?_
  refine aw_icmp_lt (tgt := 17) d_Coat_best_3 (by decide) (fun c3 => ?_) (fun c3 => ?_)
  · refine aw_iconst (v := (-1)) d_Coat_best_17 (by decide) ?_
    refine aw_ireturn d_Coat_best_18 rfl rfl ?_
    refine ⟨_, S, rfl, ?_, hX, Nat.le_refl _, fun k _ _ => rfl⟩
    unfold sp_best
    rw [if_neg]
    intro z
    obtain ⟨z1, z2⟩ := z
    simp only [fa_lt, hnT] at *
    first
      | (rw [show ((-2 : Int32)).toInt = -2 from by decide] at c3
         omega)
      | omega
  · refine aw_iload_n d_Coat_best_6 rfl ?_
    refine aw_aload_n d_Coat_best_7 rfl ?_
    refine aw_get (k := 0) d_Coat_best_8 cl_Coat k_Coat_10 (by decide) a0 rfl ?_
    refine aw_get (k := 0) d_Coat_best_11 cl_Night k_Coat_82 (by decide) n0 rfl ?_
    refine aw_icmp_lt (tgt := 19) d_Coat_best_14 (by decide) (fun c14 => ?_) (fun c14 => ?_)
    · have irw : ir w (-2) (N_n (S_N S) - 1 : Int) := by
        simp only [fa_lt, hnT] at c3 c14
        rw [show ((-2 : Int32)).toInt = -2 from by decide] at c3
        exact ⟨by omega, by omega⟩
      refine aw_aload_n d_Coat_best_19 rfl ?_
      refine aw_get (k := 0) d_Coat_best_20 cl_Coat k_Coat_10 (by decide) a0 rfl ?_
      refine aw_get (k := 0) d_Coat_best_23 cl_Night k_Coat_82 (by decide) n0 rfl ?_
      refine aw_if_eq (tgt := 39) d_Coat_best_26 (by decide) (fun c26 => ?_) (fun c26 => ?_)
      · refine aw_bipush (v := (-2)) d_Coat_best_39 (by decide) ?_
        refine aw_ireturn d_Coat_best_41 rfl rfl ?_
        refine ⟨_, S, rfl, ?_, hX, Nat.le_refl _, fun k _ _ => rfl⟩
        unfold sp_best
        rw [if_pos irw, if_pos]
        first
          | exact Or.inl ((nI_eq (b := 0) (by omega) (by decide)).mp c26)
          | exact Or.inr ((nI_eq (b := 0) (by omega) (by decide)).mp c36)
      · refine aw_aload_n d_Coat_best_29 rfl ?_
        refine aw_get (k := 0) d_Coat_best_30 cl_Coat k_Coat_10 (by decide) a0 rfl ?_
        refine aw_get (k := 15) d_Coat_best_33 cl_Night k_Coat_177 (by decide) n0 rfl ?_
        refine aw_if_ne (tgt := 42) d_Coat_best_36 (by decide) (fun c36 => ?_) (fun c36 => ?_)
        · have ne0 : ¬ (N_n (S_N S) = 0 ∨ N_fe (S_N S) = 0) := fun z => z.elim (fun z => c26 (by rw [z]; rfl)) (fun z => c36 (by rw [z]; rfl))
          refine aw_aload_n d_Coat_best_42 rfl ?_
          refine aw_get (k := 9) d_Coat_best_43 cl_Coat k_Coat_61 (by decide) a0 rfl ?_
          refine aw_get (k := 0) d_Coat_best_46 cl_Rail k_Coat_288 (by decide) h50 rfl ?_
          refine aw_if_ne (tgt := 63) d_Coat_best_49 (by decide) (fun c49 => ?_) (fun c49 => ?_)
          · first
              | exact cont h kn gr su g1 a0 h50 h51 (hv (ab_bl_1.mp c49)) hX (fun k _ _ => rfl) irw ne0
              | exact cont _ true gr2 su2 a1 a0 rfl rfl rv (hX.rl (fun k hk => HR_ne hk) ⟨true, gr2, su2, a1, rfl, rfl, ⟨a2, rfl⟩, ⟨a3, rfl⟩, fun _ => by rw [hVr]; exact rv⟩) (fun k _ _ => HR_ne (by omega)) irw ne0
          · refine aw_aload_n d_Coat_best_52 rfl ?_
            refine aw_get (k := 9) d_Coat_best_53 cl_Coat k_Coat_61 (by decide) a0 rfl ?_
            refine aw_aload_n d_Coat_best_56 rfl ?_
            refine aw_get (k := 0) d_Coat_best_57 cl_Coat k_Coat_10 (by decide) a0 rfl ?_
            refine aw_v0 (a := 50) d_Coat_best_60 k_Coat_289 ok_Rail_reckon rfl ⟨rfl, rfl⟩ cl_Rail h50 (c_Rail_reckon h50 hX.1.2.1 ok.1 (by omega) h51 h52 h53) rfl rfl (Nat.le_of_ble_eq_true rfl) (fun r m2 h2 q => ?_)
            obtain ⟨rfl, em, gr2, su2, a1, a2, a3, rfl, rv⟩ := q
            rw [em]
            show ab_W _ _ _ _ 63 _ [] _ _ _
            first
              | exact cont h kn gr su g1 a0 h50 h51 (hv (ab_bl_1.mp c49)) hX (fun k _ _ => rfl) irw ne0
              | exact cont _ true gr2 su2 a1 a0 rfl rfl rv (hX.rl (fun k hk => HR_ne hk) ⟨true, gr2, su2, a1, rfl, rfl, ⟨a2, rfl⟩, ⟨a3, rfl⟩, fun _ => by rw [hVr]; exact rv⟩) (fun k _ _ => HR_ne (by omega)) irw ne0
        · refine aw_bipush (v := (-2)) d_Coat_best_39 (by decide) ?_
          refine aw_ireturn d_Coat_best_41 rfl rfl ?_
          refine ⟨_, S, rfl, ?_, hX, Nat.le_refl _, fun k _ _ => rfl⟩
          unfold sp_best
          rw [if_pos irw, if_pos]
          first
            | exact Or.inl ((nI_eq (b := 0) (by omega) (by decide)).mp c26)
            | exact Or.inr ((nI_eq (b := 0) (by omega) (by decide)).mp c36)
    · refine aw_iconst (v := (-1)) d_Coat_best_17 (by decide) ?_
      refine aw_ireturn d_Coat_best_18 rfl rfl ?_
      refine ⟨_, S, rfl, ?_, hX, Nat.le_refl _, fun k _ _ => rfl⟩
      unfold sp_best
      rw [if_neg]
      intro z
      obtain ⟨z1, z2⟩ := z
      simp only [fa_lt, hnT] at *
      first
        | (rw [show ((-2 : Int32)).toInt = -2 from by decide] at c3
           omega)
        | omega
