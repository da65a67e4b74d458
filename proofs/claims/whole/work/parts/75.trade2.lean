def cv (o : Option Nat) : Int32 := match o with | none => -4 | some b => nI b
theorem isB_n {N : NS} {s p r n : Nat} {o : Option Nat} (h : IsB N s p (r + 1) n o) (q : ¬ s / 2 ^ iv (N_t N) r % 2 = 1) : IsB N s p r n o := by
  refine ⟨fun z c h1 h2 h3 => ?_, fun b hb => ?_⟩
  · by_cases y : c = r
    · subst y; exact q h3
    · exact h.1 z c (by omega) h2 h3
  · obtain ⟨b0, b1, b2, b3⟩ := h.2 b hb
    refine ⟨by omega, b1, b2, fun c h1 h2 h3 => ?_⟩
    by_cases y : c = r
    · subst y; exact absurd h3 q
    · exact b3 c (by omega) h2 h3
theorem isB_s {N : NS} {s p r n : Nat} {o : Option Nat} (h : IsB N s p (r + 1) n o) (hr : r < n) (q : s / 2 ^ iv (N_t N) r % 2 = 1) (h2 : ∀ b, o = some b → N_lk N (6 * p + b) ≤ N_lk N (6 * p + r)) : IsB N s p r n (some r) := by
  refine ⟨fun z => (by cases z), fun b' hb => ?_⟩
  cases hb
  refine ⟨Nat.le_refl _, hr, q, fun c h1 h3 h4 => ?_⟩
  by_cases y : c = r
  · subst y; exact Or.inr ⟨rfl, Nat.le_refl _⟩
  · cases e : o with
    | none => exact absurd h4 (h.1 e c (by omega) h3)
    | some b =>
      obtain ⟨b0, b1, b2, b3⟩ := h.2 b e
      have := h2 b e
      have := b3 c (by omega) h3 h4
      omega
theorem isB_k {N : NS} {s p r n b : Nat} (h : IsB N s p (r + 1) n (some b)) (h2 : N_lk N (6 * p + r) < N_lk N (6 * p + b)) : IsB N s p r n (some b) := by
  refine ⟨fun z => (by cases z), fun b' hb => ?_⟩
  cases hb
  obtain ⟨b0, b1, b2, b3⟩ := h.2 b rfl
  refine ⟨by omega, b1, b2, fun c h1 h3 h4 => ?_⟩
  by_cases y : c = r
  · subst y; exact Or.inl h2
  · exact b3 c (by omega) h3 h4
theorem c_point {m : Nat} {h : ab_H} {N : NS} {me mi tab ve la : Int32} {tl : Nat} {at_ wr : Int32} {fe : Nat} {kp : Bool} (hM : h 56 = oM (N_n N) (N_ns N) (N_ra N) (N_se N) me mi tab ve la tl at_ wr fe kp) (hP : PMn h N) (ok : N_ok N) {s : Nat} (hs : s < 2 ^ N_n N) {gp : Nat → Int32} (hp : h 83 = .inl (6, gp)) : ab_C Y_M_point [.ref 56, .int (nI s)] m h (fun r m2 h2 => r = none ∧ m2 = m ∧ ∃ g2 : Nat → Int32, h2 = ab_set h 83 (.inl (6, g2)) ∧ ∀ k, k < N_n N → g2 k = nI (pts N s k)) := by
  obtain ⟨⟨gx, hx, ax⟩, ⟨gy, hy, ay⟩, ⟨gm, hm, am⟩, ⟨gh, hh, ah⟩, ⟨gl, hl, al⟩, ⟨gw, hw, aw⟩, ⟨ga, ha0, aa⟩, ⟨gi, hi, ai⟩, ⟨gj, hj0, aj⟩, ⟨gf, hf0, af⟩⟩ := id hP
  have hn6 : N_n N ≤ 6 := ok.1
  have hns : N_ns N ≤ 4 := ok.2.2.2.2.2.2.2.2.1
  have hw6 := ok.w6
  have aw : ∀ k, k < N_n N → gw k = nI (N_w N / 2 ^ k % 2) := aw
  have bx := ok.2.2.2.2.2.1
  have bi := ok.2.2.2.2.2.2.2.2.2.1
  have hs6 : s < 64 := two_le6 hn6 hs
  have blk := ok.2.2.2.2.2.2.1
  refine ab_C.of (L := [some (.ref 56), some (.int (nI s)), none, none, none, none]) rfl rfl (Nat.le_of_ble_eq_true rfl) (fun l => ?_)
  have loop : ∀ k w (g2 : Nat → Int32), w + k = N_n N → (∀ k, k < w → g2 k = nI (pts N s k)) → ab_W Y_M_point none l (fun r m2 h2 => r = none ∧ m2 = m ∧ ∃ g2 : Nat → Int32, h2 = ab_set h 83 (.inl (6, g2)) ∧ ∀ k, k < N_n N → g2 k = nI (pts N s k)) 2 [some (.ref 56), some (.int (nI s)), some (.int (nI (w))), none, none, none] [] m (ab_set h 83 (.inl (6, g2))) (0, 0) := by
    intro k
    induction k with
    | zero =>
      intro w g2 hw e0
      have hwn : N_n N = w := by omega
      subst hwn
      refine aw_iload_n d_M_point_2 rfl ?_
      refine aw_aload_n d_M_point_3 rfl ?_
      refine aw_get (k := 0) d_M_point_4 cl_Model k_M_118 (by decide) hM rfl ?_
      refine aw_icmp_ge (tgt := 129) d_M_point_7 (by decide) (fun c7 => ?_) (fun c7 => ?_)
      · refine aw_return d_M_point_129 rfl ?_
        exact ⟨rfl, rfl, g2, rfl, e0⟩
      · exact absurd (Int32.le_refl _) c7
    | succ k ih =>
      intro w g2 hw e0
      refine aw_iload_n d_M_point_2 rfl ?_
      refine aw_aload_n d_M_point_3 rfl ?_
      refine aw_get (k := 0) d_M_point_4 cl_Model k_M_118 (by decide) hM rfl ?_
      refine aw_icmp_ge (tgt := 129) d_M_point_7 (by decide) (fun c7 => ?_) (fun c7 => ?_)
      · exact absurd c7 (nI_ge (by omega) (by omega))
      · refine aw_bipush (v := (-4)) d_M_point_10 (by decide) ?_
        refine aw_istore_n (L' := [some (.ref 56), some (.int (nI s)), some (.int (nI (w))), some (.int (-4)), none, none]) d_M_point_12 ⟨by decide, rfl⟩ rfl ?_
        refine aw_aload_n d_M_point_13 rfl ?_
        refine aw_get (k := 0) d_M_point_14 cl_Model k_M_118 (by decide) hM rfl ?_
        refine aw_iconst (v := nI 1) d_M_point_17 (by decide) ?_
        refine aw_isub d_M_point_18 ?_
        refine aw_topi (fun v19 ev19 => ?_)
        refine aw_istore (L' := [some (.ref 56), some (.int (nI s)), some (.int (nI (w))), some (.int (-4)), some (.int v19), none]) d_M_point_19 ⟨by decide, rfl⟩ rfl ?_
        have cont : ∀ (o : Option Nat), whb N w o = pts N s w → (∀ b, o = some b → b < N_n N) → ab_W Y_M_point none l (fun r m2 h2 => r = none ∧ m2 = m ∧ ∃ g2 : Nat → Int32, h2 = ab_set h 83 (.inl (6, g2)) ∧ ∀ k, k < N_n N → g2 k = nI (pts N s k)) 104 [some (.ref 56), some (.int (nI s)), some (.int (nI w)), some (.int (cv o)), none, none] [] m (ab_set h 83 (.inl (6, g2))) (0, 0) := by
          intro o e1 e2
          cases o with
          | none =>
            refine aw_aload_n d_M_point_104 rfl ?_
            refine aw_get (k := 39) d_M_point_105 cl_Model k_M_100 (by decide) hM rfl ?_
            refine aw_iload_n d_M_point_108 rfl ?_
            refine aw_iload_n d_M_point_109 rfl ?_
            refine aw_if_ge (tgt := 117) d_M_point_110 (by decide) (fun c110 => ?_) (fun c110 => ?_)
            · first | exact absurd c110 (by decide) | exact absurd (by decide) c110
            · refine aw_iload_n d_M_point_113 rfl ?_
              refine aw_goto (tgt := 122) d_M_point_114 (by decide) ?_
              refine aw_iastoreN d_M_point_122 rfl (by omega) (by decide) ?_
              refine aw_iinc (v := nI (w + 1)) (L' := [some (.ref 56), some (.int (nI s)), some (.int (nI (w + 1))), some (.int (-4)), none, none]) d_M_point_123 rfl (nI_1 _) ⟨by decide, rfl⟩ rfl ?_
              refine aw_goto (tgt := 2) d_M_point_126 (by decide) ?_
              rw [ab_set_set]
              exact aw_drop 3 (ih (w + 1) _ (by omega) (fun k hk => by
                by_cases e : k = w
                · subst e; rw [pk_us, ← e1]; rfl
                · rw [pk_un e]; exact e0 k (by omega)))
          | some b =>
            have e2 := e2 b rfl
            refine aw_aload_n d_M_point_104 rfl ?_
            refine aw_get (k := 39) d_M_point_105 cl_Model k_M_100 (by decide) hM rfl ?_
            refine aw_iload_n d_M_point_108 rfl ?_
            refine aw_iload_n d_M_point_109 rfl ?_
            refine aw_if_ge (tgt := 117) d_M_point_110 (by decide) (fun c110 => ?_) (fun c110 => ?_)
            · refine aw_aload_n d_M_point_117 rfl ?_
              refine aw_iload_n d_M_point_118 rfl ?_
              refine aw_v0i (a := 56) d_M_point_119 k_M_146 ok_M_holder rfl ⟨rfl, rfl⟩ cl_Model hM (c_holder (h := ab_set h 83 (.inl (6, g2))) hM hn6 ok.pm ok.2.2.1 hh ah e2) rfl rfl (Nat.le_of_ble_eq_true rfl) ?_
              refine aw_iastoreN d_M_point_122 rfl (by omega) (by decide) ?_
              refine aw_iinc (v := nI (w + 1)) (L' := [some (.ref 56), some (.int (nI s)), some (.int (nI (w + 1))), some (.int (nI b)), none, none]) d_M_point_123 rfl (nI_1 _) ⟨by decide, rfl⟩ rfl ?_
              refine aw_goto (tgt := 2) d_M_point_126 (by decide) ?_
              rw [ab_set_set]
              exact aw_drop 3 (ih (w + 1) _ (by omega) (fun k hk => by
                by_cases e : k = w
                · subst e; rw [pk_us, ← e1]; rfl
                · rw [pk_un e]; exact e0 k (by omega)))
            · exact absurd (nI_pos' (by omega)) c110
        have loop2 : ∀ (r : Nat) (o : Option Nat) (x : Int32), r ≤ N_n N → x = cv o → (s / 2 ^ w % 2 = 1 → IsB N s w r (N_n N) o) → (¬ s / 2 ^ w % 2 = 1 → o = none ∧ 0 < r) → ab_W Y_M_point none l (fun r m2 h2 => r = none ∧ m2 = m ∧ ∃ g2 : Nat → Int32, h2 = ab_set h 83 (.inl (6, g2)) ∧ ∀ k, k < N_n N → g2 k = nI (pts N s k)) 21 [some (.ref 56), some (.int (nI s)), some (.int (nI w)), some (.int x), some (.int (nI r - nI 1)), none] [] m (ab_set h 83 (.inl (6, g2))) (0, 0) := by
          intro r
          induction r with
          | zero =>
            intro o x hr ex ib no
            have si : s / 2 ^ w % 2 = 1 := Classical.byContradiction (fun z => absurd (no z).2 (by omega))
            have eo : o = bc N s w (N_n N) := (ib si).eq (bc_is N s w (N_n N))
            subst ex
            refine aw_iload d_M_point_21 rfl ?_
            refine aw_if_lt (tgt := 104) d_M_point_23 (by decide) (fun c23 => ?_) (fun c23 => ?_)
            · exact aw_drop 4 (aw_drop 5 (cont o (by rw [eo]; exact (if_pos si).symm) (fun b hb => ((ib si).2 b hb).2.1)))
            · exact absurd nI_1lt c23
          | succ r ih2 =>
            intro o x hr ex ib no
            rw [show nI (r + 1) - nI 1 = nI r from nI_pred r]
            refine aw_iload d_M_point_21 rfl ?_
            refine aw_if_lt (tgt := 104) d_M_point_23 (by decide) (fun c23 => ?_) (fun c23 => ?_)
            · exact absurd c23 (nI_n0 (by omega))
            · refine aw_iload_n d_M_point_26 rfl ?_
              refine aw_iload_n d_M_point_27 rfl ?_
              refine aw_ishr d_M_point_28 ?_
              refine aw_iconst (v := nI 1) d_M_point_29 (by decide) ?_
              refine aw_iand d_M_point_30 ?_
              refine aw_iconst (v := nI 1) d_M_point_31 (by decide) ?_
              have hr2 : r < N_n N := by omega
              rw [b_at (by omega) (by omega)]
              refine aw_icmp_ne (tgt := 104) d_M_point_32 (by decide) (fun c32 => ?_) (fun c32 => ?_)
              · have si : ¬ s / 2 ^ w % 2 = 1 := fun z => c32 (b_1.mpr z)
                have eo := (no si).1
                subst ex
                exact aw_drop 4 (aw_drop 5 (cont o (by rw [eo, pts_out si]; rfl) (fun b hb => by rw [eo] at hb; cases hb)))
              · refine aw_iload_n d_M_point_35 rfl ?_
                refine aw_aload_n d_M_point_36 rfl ?_
                refine aw_iload d_M_point_37 rfl ?_
                refine aw_v0i (a := 56) d_M_point_39 k_M_146 ok_M_holder rfl ⟨rfl, rfl⟩ cl_Model hM (c_holder (h := ab_set h 83 (.inl (6, g2))) hM hn6 ok.pm ok.2.2.1 hh ah hr2) rfl rfl (Nat.le_of_ble_eq_true rfl) ?_
                refine aw_ishr d_M_point_42 ?_
                refine aw_iconst (v := nI 1) d_M_point_43 (by decide) ?_
                refine aw_iand d_M_point_44 ?_
                refine aw_iconst (v := nI 1) d_M_point_45 (by decide) ?_
                rw [b_at (by omega) (by have := iv_in ok.pm hn6 ok.2.2.1 hr2; omega)]
                refine aw_icmp_ne (tgt := 53) d_M_point_46 (by decide) (fun c46 => ?_) (fun c46 => ?_)
                · refine aw_iconst (v := nI 0) d_M_point_53 (by decide) ?_
                  refine aw_istore (L' := [some (.ref 56), some (.int (nI s)), some (.int (nI w)), some (.int x), some (.int (nI r)), some (.int (nI 0))]) d_M_point_54 ⟨by decide, rfl⟩ rfl ?_
                  refine aw_iload d_M_point_56 rfl ?_
                  refine aw_if_eq (tgt := 96) d_M_point_58 (by decide) (fun c58 => ?_) (fun c58 => ?_)
                  · refine aw_iload_n d_M_point_96 rfl ?_
                    refine aw_istore_n (L' := [some (.ref 56), some (.int (nI s)), some (.int (nI w)), some (.int x), some (.int (nI r)), some (.int (nI 0))]) d_M_point_97 ⟨by decide, rfl⟩ rfl ?_
                    obtain ⟨v98, ev98⟩ : ∃ z : Int32, z = nI r + Int32.ofInt (-1) := ⟨_, rfl⟩
                    refine aw_iinc (v := v98) (L' := [some (.ref 56), some (.int (nI s)), some (.int (nI w)), some (.int x), some (.int v98), some (.int (nI 0))]) d_M_point_98 rfl ev98.symm ⟨by decide, rfl⟩ rfl ?_
                    refine aw_goto (tgt := 21) d_M_point_101 (by decide) ?_
                    have si := b_1.mp c32
                    rw [ev98, nI_dec]
                    first
                      | exact aw_drop 5 (ih2 o x (by omega) ex (fun _ => isB_n (ib si) (fun z => c46 (b_1.mpr z))) (fun z => absurd si z))
                      | (exact aw_drop 5 (ih2 (some r) (nI r) (by omega) rfl (fun _ => isB_s (ib si) hr2 (b_1.mp c46) (fun b eb => by
                           subst eb
                           rw [ex] at c62
                           have b1 := ((ib si).2 b rfl).2.1
                           exact absurd c62 (nI_n0 (by omega)))) (fun z => absurd si z)))
                      | (exact aw_drop 5 (ih2 (some b) (nI b) (by omega) rfl (fun _ => isB_k (ib si) ((nI_ltI (by have := blk (6 * w + r) (by omega); omega) (by have := blk (6 * w + b) (by omega); omega)).mp c88)) (fun z => absurd si z)))
                      | (exact aw_drop 5 (ih2 (some r) (nI r) (by omega) rfl (fun _ => isB_s (ib si) hr2 (b_1.mp c46) (fun b' eb => by
                           cases eb
                           exact Nat.not_lt.mp (fun z => c88 (nI_lt z (by have := blk (6 * w + b) (by omega); omega))))) (fun z => absurd si z)))
                  · first | exact absurd c58 (by decide) | exact absurd (by decide) c58
                · refine aw_iconst (v := nI 1) d_M_point_49 (by decide) ?_
                  refine aw_goto (tgt := 54) d_M_point_50 (by decide) ?_
                  refine aw_istore (L' := [some (.ref 56), some (.int (nI s)), some (.int (nI w)), some (.int x), some (.int (nI r)), some (.int (nI 1))]) d_M_point_54 ⟨by decide, rfl⟩ rfl ?_
                  refine aw_iload d_M_point_56 rfl ?_
                  refine aw_if_eq (tgt := 96) d_M_point_58 (by decide) (fun c58 => ?_) (fun c58 => ?_)
                  · first | exact absurd c58 (by decide) | exact absurd (by decide) c58
                  · refine aw_iload_n d_M_point_61 rfl ?_
                    refine aw_if_lt (tgt := 91) d_M_point_62 (by decide) (fun c62 => ?_) (fun c62 => ?_)
                    · refine aw_iload d_M_point_91 rfl ?_
                      refine aw_goto (tgt := 97) d_M_point_93 (by decide) ?_
                      refine aw_istore_n (L' := [some (.ref 56), some (.int (nI s)), some (.int (nI w)), some (.int (nI r)), some (.int (nI r)), some (.int (nI 1))]) d_M_point_97 ⟨by decide, rfl⟩ rfl ?_
                      obtain ⟨v98, ev98⟩ : ∃ z : Int32, z = nI r + Int32.ofInt (-1) := ⟨_, rfl⟩
                      refine aw_iinc (v := v98) (L' := [some (.ref 56), some (.int (nI s)), some (.int (nI w)), some (.int (nI r)), some (.int v98), some (.int (nI 1))]) d_M_point_98 rfl ev98.symm ⟨by decide, rfl⟩ rfl ?_
                      refine aw_goto (tgt := 21) d_M_point_101 (by decide) ?_
                      have si := b_1.mp c32
                      rw [ev98, nI_dec]
                      first
                        | exact aw_drop 5 (ih2 o x (by omega) ex (fun _ => isB_n (ib si) (fun z => c46 (b_1.mpr z))) (fun z => absurd si z))
                        | (exact aw_drop 5 (ih2 (some r) (nI r) (by omega) rfl (fun _ => isB_s (ib si) hr2 (b_1.mp c46) (fun b eb => by
                             subst eb
                             rw [ex] at c62
                             have b1 := ((ib si).2 b rfl).2.1
                             exact absurd c62 (nI_n0 (by omega)))) (fun z => absurd si z)))
                        | (exact aw_drop 5 (ih2 (some b) (nI b) (by omega) rfl (fun _ => isB_k (ib si) ((nI_ltI (by have := blk (6 * w + r) (by omega); omega) (by have := blk (6 * w + b) (by omega); omega)).mp c88)) (fun z => absurd si z)))
                        | (exact aw_drop 5 (ih2 (some r) (nI r) (by omega) rfl (fun _ => isB_s (ib si) hr2 (b_1.mp c46) (fun b' eb => by
                             cases eb
                             exact Nat.not_lt.mp (fun z => c88 (nI_lt z (by have := blk (6 * w + b) (by omega); omega))))) (fun z => absurd si z)))
                    · obtain ⟨b, eb⟩ : ∃ b, o = some b := by
                        cases o with
                        | none => exact absurd (by rw [ex]; show (-4 : Int32) < 0; decide) c62
                        | some b => exact ⟨b, rfl⟩
                      subst eb
                      have ex : x = nI b := ex
                      subst ex
                      have si := b_1.mp c32
                      obtain ⟨b0, b1, b2, b3⟩ := (ib si).2 b rfl
                      refine aw_aload_n d_M_point_65 rfl ?_
                      refine aw_get (k := 5) d_M_point_66 cl_Model k_M_22 (by decide) hM rfl ?_
                      refine aw_bipush (v := nI 6) d_M_point_69 (by decide) ?_
                      refine aw_iload_n d_M_point_71 rfl ?_
                      refine aw_imul d_M_point_72 ?_
                      refine aw_iload d_M_point_73 rfl ?_
                      refine aw_iadd d_M_point_75 ?_
                      rw [pk_mul, nI_add]
                      refine aw_ialoadN d_M_point_76 hl (by omega) (by decide) ?_
                      rw [al _ (by omega)]
                      refine aw_aload_n d_M_point_77 rfl ?_
                      refine aw_get (k := 5) d_M_point_78 cl_Model k_M_22 (by decide) hM rfl ?_
                      refine aw_bipush (v := nI 6) d_M_point_81 (by decide) ?_
                      refine aw_iload_n d_M_point_83 rfl ?_
                      refine aw_imul d_M_point_84 ?_
                      refine aw_iload_n d_M_point_85 rfl ?_
                      refine aw_iadd d_M_point_86 ?_
                      rw [pk_mul, nI_add]
                      refine aw_ialoadN d_M_point_87 hl (by omega) (by decide) ?_
                      rw [al _ (by omega)]
                      refine aw_icmp_lt (tgt := 96) d_M_point_88 (by decide) (fun c88 => ?_) (fun c88 => ?_)
                      · refine aw_iload_n d_M_point_96 rfl ?_
                        refine aw_istore_n (L' := [some (.ref 56), some (.int (nI s)), some (.int (nI w)), some (.int (nI b)), some (.int (nI r)), some (.int (nI 1))]) d_M_point_97 ⟨by decide, rfl⟩ rfl ?_
                        obtain ⟨v98, ev98⟩ : ∃ z : Int32, z = nI r + Int32.ofInt (-1) := ⟨_, rfl⟩
                        refine aw_iinc (v := v98) (L' := [some (.ref 56), some (.int (nI s)), some (.int (nI w)), some (.int (nI b)), some (.int v98), some (.int (nI 1))]) d_M_point_98 rfl ev98.symm ⟨by decide, rfl⟩ rfl ?_
                        refine aw_goto (tgt := 21) d_M_point_101 (by decide) ?_
                        have si := b_1.mp c32
                        rw [ev98, nI_dec]
                        first
                          | exact aw_drop 5 (ih2 o x (by omega) ex (fun _ => isB_n (ib si) (fun z => c46 (b_1.mpr z))) (fun z => absurd si z))
                          | (exact aw_drop 5 (ih2 (some r) (nI r) (by omega) rfl (fun _ => isB_s (ib si) hr2 (b_1.mp c46) (fun b eb => by
                               subst eb
                               rw [ex] at c62
                               have b1 := ((ib si).2 b rfl).2.1
                               exact absurd c62 (nI_n0 (by omega)))) (fun z => absurd si z)))
                          | (exact aw_drop 5 (ih2 (some b) (nI b) (by omega) rfl (fun _ => isB_k (ib si) ((nI_ltI (by have := blk (6 * w + r) (by omega); omega) (by have := blk (6 * w + b) (by omega); omega)).mp c88)) (fun z => absurd si z)))
                          | (exact aw_drop 5 (ih2 (some r) (nI r) (by omega) rfl (fun _ => isB_s (ib si) hr2 (b_1.mp c46) (fun b' eb => by
                               cases eb
                               exact Nat.not_lt.mp (fun z => c88 (nI_lt z (by have := blk (6 * w + b) (by omega); omega))))) (fun z => absurd si z)))
                      · refine aw_iload d_M_point_91 rfl ?_
                        refine aw_goto (tgt := 97) d_M_point_93 (by decide) ?_
                        refine aw_istore_n (L' := [some (.ref 56), some (.int (nI s)), some (.int (nI w)), some (.int (nI r)), some (.int (nI r)), some (.int (nI 1))]) d_M_point_97 ⟨by decide, rfl⟩ rfl ?_
                        obtain ⟨v98, ev98⟩ : ∃ z : Int32, z = nI r + Int32.ofInt (-1) := ⟨_, rfl⟩
                        refine aw_iinc (v := v98) (L' := [some (.ref 56), some (.int (nI s)), some (.int (nI w)), some (.int (nI r)), some (.int v98), some (.int (nI 1))]) d_M_point_98 rfl ev98.symm ⟨by decide, rfl⟩ rfl ?_
                        refine aw_goto (tgt := 21) d_M_point_101 (by decide) ?_
                        have si := b_1.mp c32
                        rw [ev98, nI_dec]
                        first
                          | exact aw_drop 5 (ih2 o x (by omega) ex (fun _ => isB_n (ib si) (fun z => c46 (b_1.mpr z))) (fun z => absurd si z))
                          | (exact aw_drop 5 (ih2 (some r) (nI r) (by omega) rfl (fun _ => isB_s (ib si) hr2 (b_1.mp c46) (fun b eb => by
                               subst eb
                               rw [ex] at c62
                               have b1 := ((ib si).2 b rfl).2.1
                               exact absurd c62 (nI_n0 (by omega)))) (fun z => absurd si z)))
                          | (exact aw_drop 5 (ih2 (some b) (nI b) (by omega) rfl (fun _ => isB_k (ib si) ((nI_ltI (by have := blk (6 * w + r) (by omega); omega) (by have := blk (6 * w + b) (by omega); omega)).mp c88)) (fun z => absurd si z)))
                          | (exact aw_drop 5 (ih2 (some r) (nI r) (by omega) rfl (fun _ => isB_s (ib si) hr2 (b_1.mp c46) (fun b' eb => by
                               cases eb
                               exact Nat.not_lt.mp (fun z => c88 (nI_lt z (by have := blk (6 * w + b) (by omega); omega))))) (fun z => absurd si z)))
        rw [ev19]
        exact loop2 (N_n N) none (-4) (Nat.le_refl _) rfl (fun _ => ⟨fun _ c h1 h2 => absurd h2 (by omega), fun b hb => by cases hb⟩) (fun _ => ⟨rfl, by omega⟩)
  refine aw_iconst (v := nI 0) d_M_point_0 (by decide) ?_
  refine aw_istore_n (L' := [some (.ref 56), some (.int (nI s)), some (.int (nI 0)), none, none, none]) d_M_point_1 ⟨by decide, rfl⟩ rfl ?_
  exact aw_heap (ab_set_eq (h := h) (a := 83) hp) (loop (N_n N) 0 gp (by omega) (fun k hk => absurd hk (Nat.not_lt_zero _)))
