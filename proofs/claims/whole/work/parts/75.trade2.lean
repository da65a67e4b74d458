def cv (o : Option Nat) : Int32 := match o with | none => -4 | some b => nI b
theorem isB_n {N : NS} {s p r n : Nat} {o : Option Nat} (h : IsB N s p (r + 1) n o) (q : ¬ s / 2 ^ iv (N_t N) r % 2 = 1) : IsB N s p r n o := by
  refine ⟨fun z c h1 h2 h3 => ?_, fun b hb => ?_⟩
  · by_cases y : c = r
    · subst y; exact q h3
    · exact h.1 z c (by omega) h2 h3
  · obtain ⟨b0, b1, b2, b3⟩ := h.2 b hb
    refine ⟨by omega, b1, b2, fun c h1 h2 h3 => ?_⟩
    by_cases y : c = r
    · subst y; exact absurd h3 q
    · exact b3 c (by omega) h2 h3
theorem isB_s {N : NS} {s p r n : Nat} {o : Option Nat} (h : IsB N s p (r + 1) n o) (hr : r < n) (q : s / 2 ^ iv (N_t N) r % 2 = 1) (h2 : ∀ b, o = some b → N_lk N (6 * p + b) ≤ N_lk N (6 * p + r)) : IsB N s p r n (some r) := by
  refine ⟨fun z => (by cases z), fun b' hb => ?_⟩
  cases hb
  refine ⟨Nat.le_refl _, hr, q, fun c h1 h3 h4 => ?_⟩
  by_cases y : c = r
  · subst y; exact Or.inr ⟨rfl, Nat.le_refl _⟩
  · cases e : o with
    | none => exact absurd h4 (h.1 e c (by omega) h3)
    | some b =>
      obtain ⟨b0, b1, b2, b3⟩ := h.2 b e
      have := h2 b e
      have := b3 c (by omega) h3 h4
      omega
theorem isB_k {N : NS} {s p r n b : Nat} (h : IsB N s p (r + 1) n (some b)) (h2 : N_lk N (6 * p + r) < N_lk N (6 * p + b)) : IsB N s p r n (some b) := by
  refine ⟨fun z => (by cases z), fun b' hb => ?_⟩
  cases hb
  obtain ⟨b0, b1, b2, b3⟩ := h.2 b rfl
  refine ⟨by omega, b1, b2, fun c h1 h3 h4 => ?_⟩
  by_cases y : c = r
  · subst y; exact Or.inl h2
  · exact b3 c (by omega) h3 h4
theorem c_point {m : Nat} {h : ab_H} {N : NS} {me mi tab ve la : Int32} {tl : Nat} {at_ wr : Int32} {fe : Nat} {kp : Bool} (hM : h 56 = oM (N_n N) (N_ns N) (N_ra N) (N_se N) me mi tab ve la tl at_ wr fe kp) (hP : PMn h N) (ok : N_ok N) {s : Nat} (hs : s < 2 ^ N_n N) {gp : Nat → Int32} (hp : h 83 = .inl (6, gp)) : ab_C Y_M_point [.ref 56, .int (nI s)] m h (fun r m2 h2 => r = none ∧ m2 = m ∧ ∃ g2 : Nat → Int32, h2 = ab_set h 83 (.inl (6, g2)) ∧ ∀ k, k < N_n N → g2 k = nI (pts N s k)) := by
  obtain ⟨⟨gx, hx, ax⟩, ⟨gy, hy, ay⟩, ⟨gm, hm, am⟩, ⟨gh, hh, ah⟩, ⟨gl, hl, al⟩, ⟨gw, hw, aw⟩, ⟨ga, ha0, aa⟩, ⟨gi, hi, ai⟩, ⟨gj, hj0, aj⟩, ⟨gf, hf0, af⟩⟩ := id hP
  have hn6 : N_n N ≤ 6 := ok.1
  have hns : N_ns N ≤ 4 := ok.2.2.2.2.2.2.2.2.1
  have hw6 := ok.w6
  have aw : ∀ k, k < N_n N → gw k = nI (N_w N / 2 ^ k % 2) := aw
  have bx := ok.2.2.2.2.2.1
  have bi := ok.2.2.2.2.2.2.2.2.2.1
  have hs6 : s < 64 := two_le6 hn6 hs
  have blk := ok.2.2.2.2.2.2.1
  refine ab_C.of (L := [some (.ref 56), some (.int (nI s)), none, none, none, none]) rfl rfl (Nat.le_of_ble_eq_true rfl) (fun l => ?_)
  have loop : ∀ k w (g2 : Nat → Int32), w + k = N_n N → (∀ k, k < w → g2 k = nI (pts N s k)) → ab_W Y_M_point none l (fun r m2 h2 => r = none ∧ m2 = m ∧ ∃ g2 : Nat → Int32, h2 = ab_set h 83 (.inl (6, g2)) ∧ ∀ k, k < N_n N → g2 k = nI (pts N s k)) 2 [some (.ref 56), some (.int (nI s)), some (.int (nI (w))), none, none, none] [] m (ab_set h 83 (.inl (6, g2))) (0, 0) := by
    intro k
    induction k with
    | zero =>
      intro w g2 hw e0
      have hwn : N_n N = w := by omega
      subst hwn
      refine aw_iload_n d_M_point_2 rfl ?_
      refine aw_aload_n d_M_point_3 rfl ?_
      refine aw_get (k := 0) d_M_point_4 cl_Model k_M_118 (by decide) hM rfl ?_
      refine aw_icmp_ge (tgt := 129) d_M_point_7 (by decide) (fun c7 => ?_) (fun c7 => ?_)
      · refine aw_return d_M_point_129 rfl ?_
        exact ⟨rfl, rfl, g2, rfl, e0⟩
      · exact absurd (Int32.le_refl _) c7
    | succ k ih =>
      intro w g2 hw e0
      refine aw_iload_n d_M_point_2 rfl ?_
      refine aw_aload_n d_M_point_3 rfl ?_
      refine aw_get (k := 0) d_M_point_4 cl_Model k_M_118 (by decide) hM rfl ?_
      refine aw_icmp_ge (tgt := 129) d_M_point_7 (by decide) (fun c7 => ?_) (fun c7 => ?_)
      · exact absurd c7 (nI_ge (by omega) (by omega))
      · refine aw_bipush (v := (-4)) d_M_point_10 (by decide) ?_
        refine aw_istore_n (L' := [some (.ref 56), some (.int (nI s)), some (.int (nI (w))), some (.int (-4)), none, none]) d_M_point_12 ⟨by decide, rfl⟩ rfl ?_
        refine aw_aload_n d_M_point_13 rfl ?_
        refine aw_get (k := 0) d_M_point_14 cl_Model k_M_118 (by decide) hM rfl ?_
        refine aw_iconst (v := nI 1) d_M_point_17 (by decide) ?_
        refine aw_isub d_M_point_18 ?_
        refine aw_topi (fun v19 ev19 => ?_)
        refine aw_istore (L' := [some (.ref 56), some (.int (nI s)), some (.int (nI (w))), some (.int (-4)), some (.int v19), none]) d_M_point_19 ⟨by decide, rfl⟩ rfl ?_
        have cont : ∀ (o : Option Nat), whb N w o = pts N s w → (∀ b, o = some b → b < N_n N) → ab_W Y_M_point none l (fun r m2 h2 => r = none ∧ m2 = m ∧ ∃ g2 : Nat → Int32, h2 = ab_set h 83 (.inl (6, g2)) ∧ ∀ k, k < N_n N → g2 k = nI (pts N s k)) 104 [some (.ref 56), some (.int (nI s)), some (.int (nI w)), some (.int (cv o)), none, none] [] m (ab_set h 83 (.inl (6, g2))) (0, 0) := by
          intro o e1 e2
          cases o with
          | none =>
            refine aw_aload_n d_M_point_104 rfl ?_
            refine aw_get (k := 39) d_M_point_105 cl_Model k_M_100 (by decide) hM rfl ?_
            refine aw_iload_n d_M_point_108 rfl ?_
            refine aw_iload_n d_M_point_109 rfl ?_
            refine aw_if_ge (tgt := 117) d_M_point_110 (by decide) (fun c110 => ?_) (fun c110 => ?_)
            · first | exact absurd c110 (by decide) | exact absurd (by decide) c110
            · refine aw_iload_n d_M_point_113 rfl ?_
              refine aw_goto (tgt := 122) d_M_point_114 (by decide) ?_
              refine aw_iastoreN d_M_point_122 rfl (by omega) (by decide) ?_
              refine aw_iinc (v := nI (w + 1)) (L' := [some (.ref 56), some (.int (nI s)), some (.int (nI (w + 1))), some (.int (-4)), none, none]) d_M_point_123 rfl (nI_1 _) ⟨by decide, rfl⟩ rfl ?_
              refine aw_goto (tgt := 2) d_M_point_126 (by decide) ?_
              rw [ab_set_set]
              exact aw_drop 3 (ih (w + 1) _ (by omega) (fun k hk => by
                by_cases e : k = w
                · subst e; rw [pk_us, ← e1]; rfl
                · rw [pk_un e]; exact e0 k (by omega)))
          | some b =>
            have e2 := e2 b rfl
            refine aw_aload_n d_M_point_104 rfl ?_
            refine aw_get (k := 39) d_M_point_105 cl_Model k_M_100 (by decide) hM rfl ?_
            refine aw_iload_n d_M_point_108 rfl ?_
            refine aw_iload_n d_M_point_109 rfl ?_
            refine aw_if_ge (tgt := 117) d_M_point_110 (by decide) (fun c110 => ?_) (fun c110 => ?_)
            · refine aw_aload_n d_M_point_117 rfl ?_
              refine aw_iload_n d_M_point_118 rfl ?_
              refine aw_v0i (a := 56) d_M_point_119 k_M_146 ok_M_holder rfl ⟨rfl, rfl⟩ cl_Model hM (c_holder (h := ab_set h 83 (.inl (6, g2))) hM hn6 ok.pm ok.2.2.1 hh ah e2) rfl rfl (Nat.le_of_ble_eq_true rfl) ?_
              refine aw_iastoreN d_M_point_122 rfl (by omega) (by decide) ?_
              refine aw_iinc (v := nI (w + 1)) (L' := [some (.ref 56), some (.int (nI s)), some (.int (nI (w + 1))), some (.int (nI b)), none, none]) d_M_point_123 rfl (nI_1 _) ⟨by decide, rfl⟩ rfl ?_
              refine aw_goto (tgt := 2) d_M_point_126 (by decide) ?_
              rw [ab_set_set]
              exact aw_drop 3 (ih (w + 1) _ (by omega) (fun k hk => by
                by_cases e : k = w
                · subst e; rw [pk_us, ← e1]; rfl
                · rw [pk_un e]; exact e0 k (by omega)))
            · exact absurd (nI_pos' (by omega)) c110
        have loop2 : ∀ (r : Nat) (o : Option Nat) (x : Int32), r ≤ N_n N → x = cv o → (s / 2 ^ w % 2 = 1 → IsB N s w r (N_n N) o) → (¬ s / 2 ^ w % 2 = 1 → o = none ∧ 0 < r) → ab_W Y_M_point none l (fun r m2 h2 => r = none ∧ m2 = m ∧ ∃ g2 : Nat → Int32, h2 = ab_set h 83 (.inl (6, g2)) ∧ ∀ k, k < N_n N → g2 k = nI (pts N s k)) 21 [some (.ref 56), some (.int (nI s)), some (.int (nI w)), some (.int x), some (.int (nI r - nI 1)), none] [] m (ab_set h 83 (.inl (6, g2))) (0, 0) := by
          intro r
          induction r with
          | zero =>
            intro o x hr ex ib no
            have si : s / 2 ^ w % 2 = 1 := Classical.byContradiction (fun z => absurd (no z).2 (by omega))
            have eo : o = bc N s w (N_n N) := (ib si).eq (bc_is N s w (N_n N))
            subst ex
            refine aw_iload d_M_point_21 rfl ?_
            refine aw_if_lt (tgt := 104) d_M_point_23 (by decide) (fun c23 => ?_) (fun c23 => ?_)
            · exact aw_drop 4 (aw_drop 5 (cont o (by rw [eo]; exact (if_pos si).symm) (fun b hb => ((ib si).2 b hb).2.1)))
            · exact absurd nI_1lt c23
          | succ r ih2 =>
            intro o x hr ex ib no
            rw [show nI (r + 1) - nI 1 = nI r from nI_pred r]
            refine aw_iload d_M_point_21 rfl ?_
            refine aw_if_lt (tgt := 104) d_M_point_23 (by decide) (fun c23 => ?_) (fun c23 => ?_)
            · exact absurd c23 (nI_n0 (by omega))
            · refine aw_iload_n d_M_point_26 rfl ?_
              refine aw_iload_n d_M_point_27 rfl ?_
              refine aw_ishr d_M_point_28 ?_
              refine aw_iconst (v := nI 1) d_M_point_29 (by decide) ?_
              refine aw_iand d_M_point_30 ?_
              refine aw_iconst (v := nI 1) d_M_point_31 (by decide) ?_
              have hr2 : r < N_n N := by omega
              rw [b_at (by omega) (by omega)]
              refine aw_icmp_ne (tgt := 104) d_M_point_32 (by decide) (fun c32 => ?_) (fun c32 => ?_)
              · have si : ¬ s / 2 ^ w % 2 = 1 := fun z => c32 (b_1.mpr z)
                have eo := (no si).1
                subst ex
                exact aw_drop 4 (aw_drop 5 (cont o (by rw [eo, pts_out si]; rfl) (fun b hb => by rw [eo] at hb; cases hb)))
              · refine aw_iload_n d_M_point_35 rfl ?_
                refine aw_aload_n d_M_point_36 rfl ?_
                refine aw_iload d_M_point_37 rfl ?_
                refine aw_v0i (a := 56) d_M_point_39 k_M_146 ok_M_holder rfl ⟨rfl, rfl⟩ cl_Model hM (c_holder (h := ab_set h 83 (.inl (6, g2))) hM hn6 ok.pm ok.2.2.1 hh ah hr2) rfl rfl (Nat.le_of_ble_eq_true rfl) ?_
                refine aw_ishr d_M_point_42 ?_
                refine aw_iconst (v := nI 1) d_M_point_43 (by decide) ?_
                refine aw_iand d_M_point_44 ?_
                refine aw_iconst (v := nI 1) d_M_point_45 (by decide) ?_
                rw [b_at (by omega) (by have := iv_in ok.pm hn6 ok.2.2.1 hr2; omega)]
                refine aw_icmp_ne (tgt := 53) d_M_point_46 (by decide) (fun c46 => ?_) (fun c46 => ?_)
                · refine aw_iconst (v := nI 0) d_M_point_53 (by decide) ?_
                  refine aw_istore (L' := [some (.ref 56), some (.int (nI s)), some (.int (nI w)), some (.int x), some (.int (nI r)), some (.int (nI 0))]) d_M_point_54 ⟨by decide, rfl⟩ rfl ?_
                  refine aw_iload d_M_point_56 rfl ?_
                  refine aw_if_eq (tgt := 96) d_M_point_58 (by decide) (fun c58 => ?_) (fun c58 => ?_)
                  · refine aw_iload_n d_M_point_96 rfl ?_
                    refine aw_istore_n (L' := [some (.ref 56), some (.int (nI s)), some (.int (nI w)), some (.int x), some (.int (nI r)), some (.int (nI 0))]) d_M_point_97 ⟨by decide, rfl⟩ rfl ?_
                    obtain ⟨v98, ev98⟩ : ∃ z : Int32, z = nI r + Int32.ofInt (-1) := ⟨_, rfl⟩
                    refine aw_iinc (v := v98) (L' := [some (.ref 56), some (.int (nI s)), some (.int (nI w)), some (.int x), some (.int v98), some (.int (nI 0))]) d_M_point_98 rfl ev98.symm ⟨by decide, rfl⟩ rfl ?_
                    refine aw_goto (tgt := 21) d_M_point_101 (by decide) ?_
                    have si := b_1.mp c32
                    rw [ev98, nI_dec]
                    first
                      | exact aw_drop 5 (ih2 o x (by omega) ex (fun _ => isB_n (ib si) (fun z => c46 (b_1.mpr z))) (fun z => absurd si z))
                      | (exact aw_drop 5 (ih2 (some r) (nI r) (by omega) rfl (fun _ => isB_s (ib si) hr2 (b_1.mp c46) (fun b eb => by
                           subst eb
                           rw [ex] at c62
                           have b1 := ((ib si).2 b rfl).2.1
                           exact absurd c62 (nI_n0 (by omega)))) (fun z => absurd si z)))
                      | (exact aw_drop 5 (ih2 (some b) (nI b) (by omega) rfl (fun _ => isB_k (ib si) ((nI_ltI (by have := blk (6 * w + r) (by omega); omega) (by have := blk (6 * w + b) (by omega); omega)).mp c88)) (fun z => absurd si z)))
                      | (exact aw_drop 5 (ih2 (some r) (nI r) (by omega) rfl (fun _ => isB_s (ib si) hr2 (b_1.mp c46) (fun b' eb => by
                           cases eb
                           exact Nat.not_lt.mp (fun z => c88 (nI_lt z (by have := blk (6 * w + b) (by omega); omega))))) (fun z => absurd si z)))
                  · first | exact absurd c58 (by decide) | exact absurd (by decide) c58
                · refine aw_iconst (v := nI 1) d_M_point_49 (by decide) ?_
                  refine aw_goto (tgt := 54) d_M_point_50 (by decide) ?_
                  refine aw_istore (L' := [some (.ref 56), some (.int (nI s)), some (.int (nI w)), some (.int x), some (.int (nI r)), some (.int (nI 1))]) d_M_point_54 ⟨by decide, rfl⟩ rfl ?_
                  refine aw_iload d_M_point_56 rfl ?_
                  refine aw_if_eq (tgt := 96) d_M_point_58 (by decide) (fun c58 => ?_) (fun c58 => ?_)
                  · first | exact absurd c58 (by decide) | exact absurd (by decide) c58
                  · refine aw_iload_n d_M_point_61 rfl ?_
                    refine aw_if_lt (tgt := 91) d_M_point_62 (by decide) (fun c62 => ?_) (fun c62 => ?_)
                    · refine aw_iload d_M_point_91 rfl ?_
                      refine aw_goto (tgt := 97) d_M_point_93 (by decide) ?_
                      refine aw_istore_n (L' := [some (.ref 56), some (.int (nI s)), some (.int (nI w)), some (.int (nI r)), some (.int (nI r)), some (.int (nI 1))]) d_M_point_97 ⟨by decide, rfl⟩ rfl ?_
                      obtain ⟨v98, ev98⟩ : ∃ z : Int32, z = nI r + Int32.ofInt (-1) := ⟨_, rfl⟩
                      refine aw_iinc (v := v98) (L' := [some (.ref 56), some (.int (nI s)), some (.int (nI w)), some (.int (nI r)), some (.int v98), some (.int (nI 1))]) d_M_point_98 rfl ev98.symm ⟨by decide, rfl⟩ rfl ?_
                      refine aw_goto (tgt := 21) d_M_point_101 (by decide) ?_
                      have si := b_1.mp c32
                      rw [ev98, nI_dec]
                      first
                        | exact aw_drop 5 (ih2 o x (by omega) ex (fun _ => isB_n (ib si) (fun z => c46 (b_1.mpr z))) (fun z => absurd si z))
                        | (exact aw_drop 5 (ih2 (some r) (nI r) (by omega) rfl (fun _ => isB_s (ib si) hr2 (b_1.mp c46) (fun b eb => by
                             subst eb
                             rw [ex] at c62
                             have b1 := ((ib si).2 b rfl).2.1
                             exact absurd c62 (nI_n0 (by omega)))) (fun z => absurd si z)))
                        | (exact aw_drop 5 (ih2 (some b) (nI b) (by omega) rfl (fun _ => isB_k (ib si) ((nI_ltI (by have := blk (6 * w + r) (by omega); omega) (by have := blk (6 * w + b) (by omega); omega)).mp c88)) (fun z => absurd si z)))
                        | (exact aw_drop 5 (ih2 (some r) (nI r) (by omega) rfl (fun _ => isB_s (ib si) hr2 (b_1.mp c46) (fun b' eb => by
                             cases eb
                             exact Nat.not_lt.mp (fun z => c88 (nI_lt z (by have := blk (6 * w + b) (by omega); omega))))) (fun z => absurd si z)))
                    · obtain ⟨b, eb⟩ : ∃ b, o = some b := by
                        cases o with
                        | none => exact absurd (by rw [ex]; show (-4 : Int32) < 0; decide) c62
                        | some b => exact ⟨b, rfl⟩
                      subst eb
                      have ex : x = nI b := ex
                      subst ex
                      have si := b_1.mp c32
                      obtain ⟨b0, b1, b2, b3⟩ := (ib si).2 b rfl
                      refine aw_aload_n d_M_point_65 rfl ?_
                      refine aw_get (k := 5) d_M_point_66 cl_Model k_M_22 (by decide) hM rfl ?_
                      refine aw_bipush (v := nI 6) d_M_point_69 (by decide) ?_
                      refine aw_iload_n d_M_point_71 rfl ?_
                      refine aw_imul d_M_point_72 ?_
                      refine aw_iload d_M_point_73 rfl ?_
                      refine aw_iadd d_M_point_75 ?_
                      rw [pk_mul, nI_add]
                      refine aw_ialoadN d_M_point_76 hl (by omega) (by decide) ?_
                      rw [al _ (by omega)]
                      refine aw_aload_n d_M_point_77 rfl ?_
                      refine aw_get (k := 5) d_M_point_78 cl_Model k_M_22 (by decide) hM rfl ?_
                      refine aw_bipush (v := nI 6) d_M_point_81 (by decide) ?_
                      refine aw_iload_n d_M_point_83 rfl ?_
                      refine aw_imul d_M_point_84 ?_
                      refine aw_iload_n d_M_point_85 rfl ?_
                      refine aw_iadd d_M_point_86 ?_
                      rw [pk_mul, nI_add]
                      refine aw_ialoadN d_M_point_87 hl (by omega) (by decide) ?_
                      rw [al _ (by omega)]
                      refine aw_icmp_lt (tgt := 96) d_M_point_88 (by decide) (fun c88 => ?_) (fun c88 => ?_)
                      · refine aw_iload_n d_M_point_96 rfl ?_
                        refine aw_istore_n (L' := [some (.ref 56), some (.int (nI s)), some (.int (nI w)), some (.int (nI b)), some (.int (nI r)), some (.int (nI 1))]) d_M_point_97 ⟨by decide, rfl⟩ rfl ?_
                        obtain ⟨v98, ev98⟩ : ∃ z : Int32, z = nI r + Int32.ofInt (-1) := ⟨_, rfl⟩
                        refine aw_iinc (v := v98) (L' := [some (.ref 56), some (.int (nI s)), some (.int (nI w)), some (.int (nI b)), some (.int v98), some (.int (nI 1))]) d_M_point_98 rfl ev98.symm ⟨by decide, rfl⟩ rfl ?_
                        refine aw_goto (tgt := 21) d_M_point_101 (by decide) ?_
                        have si := b_1.mp c32
                        rw [ev98, nI_dec]
                        first
                          | exact aw_drop 5 (ih2 o x (by omega) ex (fun _ => isB_n (ib si) (fun z => c46 (b_1.mpr z))) (fun z => absurd si z))
                          | (exact aw_drop 5 (ih2 (some r) (nI r) (by omega) rfl (fun _ => isB_s (ib si) hr2 (b_1.mp c46) (fun b eb => by
                               subst eb
                               rw [ex] at c62
                               have b1 := ((ib si).2 b rfl).2.1
                               exact absurd c62 (nI_n0 (by omega)))) (fun z => absurd si z)))
                          | (exact aw_drop 5 (ih2 (some b) (nI b) (by omega) rfl (fun _ => isB_k (ib si) ((nI_ltI (by have := blk (6 * w + r) (by omega); omega) (by have := blk (6 * w + b) (by omega); omega)).mp c88)) (fun z => absurd si z)))
                          | (exact aw_drop 5 (ih2 (some r) (nI r) (by omega) rfl (fun _ => isB_s (ib si) hr2 (b_1.mp c46) (fun b' eb => by
                               cases eb
                               exact Nat.not_lt.mp (fun z => c88 (nI_lt z (by have := blk (6 * w + b) (by omega); omega))))) (fun z => absurd si z)))
                      · refine aw_iload d_M_point_91 rfl ?_
                        refine aw_goto (tgt := 97) d_M_point_93 (by decide) ?_
                        refine aw_istore_n (L' := [some (.ref 56), some (.int (nI s)), some (.int (nI w)), some (.int (nI r)), some (.int (nI r)), some (.int (nI 1))]) d_M_point_97 ⟨by decide, rfl⟩ rfl ?_
                        obtain ⟨v98, ev98⟩ : ∃ z : Int32, z = nI r + Int32.ofInt (-1) := ⟨_, rfl⟩
                        refine aw_iinc (v := v98) (L' := [some (.ref 56), some (.int (nI s)), some (.int (nI w)), some (.int (nI r)), some (.int v98), some (.int (nI 1))]) d_M_point_98 rfl ev98.symm ⟨by decide, rfl⟩ rfl ?_
                        refine aw_goto (tgt := 21) d_M_point_101 (by decide) ?_
                        have si := b_1.mp c32
                        rw [ev98, nI_dec]
                        first
                          | exact aw_drop 5 (ih2 o x (by omega) ex (fun _ => isB_n (ib si) (fun z => c46 (b_1.mpr z))) (fun z => absurd si z))
                          | (exact aw_drop 5 (ih2 (some r) (nI r) (by omega) rfl (fun _ => isB_s (ib si) hr2 (b_1.mp c46) (fun b eb => by
                               subst eb
                               rw [ex] at c62
                               have b1 := ((ib si).2 b rfl).2.1
                               exact absurd c62 (nI_n0 (by omega)))) (fun z => absurd si z)))
                          | (exact aw_drop 5 (ih2 (some b) (nI b) (by omega) rfl (fun _ => isB_k (ib si) ((nI_ltI (by have := blk (6 * w + r) (by omega); omega) (by have := blk (6 * w + b) (by omega); omega)).mp c88)) (fun z => absurd si z)))
                          | (exact aw_drop 5 (ih2 (some r) (nI r) (by omega) rfl (fun _ => isB_s (ib si) hr2 (b_1.mp c46) (fun b' eb => by
                               cases eb
                               exact Nat.not_lt.mp (fun z => c88 (nI_lt z (by have := blk (6 * w + b) (by omega); omega))))) (fun z => absurd si z)))
        rw [ev19]
        exact loop2 (N_n N) none (-4) (Nat.le_refl _) rfl (fun _ => ⟨fun _ c h1 h2 => absurd h2 (by omega), fun b hb => by cases hb⟩) (fun _ => ⟨rfl, by omega⟩)
  refine aw_iconst (v := nI 0) d_M_point_0 (by decide) ?_
  refine aw_istore_n (L' := [some (.ref 56), some (.int (nI s)), some (.int (nI 0)), none, none, none]) d_M_point_1 ⟨by decide, rfl⟩ rfl ?_
  exact aw_heap (ab_set_eq (h := h) (a := 83) hp) (loop (N_n N) 0 gp (by omega) (fun k hk => absurd hk (Nat.not_lt_zero _)))
theorem c_trades {m : Nat} {h : ab_H} {N : NS} {me mi tab ve la : Int32} {tl : Nat} {at_ wr : Int32} {fe : Nat} {kp : Bool} (hM : h 56 = oM (N_n N) (N_ns N) (N_ra N) (N_se N) me mi tab ve la tl at_ wr fe kp) (hP : PMn h N) (ok : N_ok N) {gp gq : Nat → Int32} (hp : h 82 = .inl (6, gp)) (hq9 : h 83 = .inl (6, gq)) : ab_C Y_M_trades [.ref 56] m h (fun r m2 h2 => r = none ∧ m2 = m ∧ ∃ g8 g9 : Nat → Int32, h2 = ab_set (ab_set h 82 (.inl (6, g8))) 83 (.inl (6, g9)) ∧ ∀ k, k < N_n N → g8 k = nI (trd N 6 (wil N) k)) := by
  obtain ⟨⟨gx, hx, ax⟩, ⟨gy, hy, ay⟩, ⟨gm, hm, am⟩, ⟨gh, hh, ah⟩, ⟨gl, hl, al⟩, ⟨gw, hw, aw⟩, ⟨ga, ha0, aa⟩, ⟨gi, hi, ai⟩, ⟨gj, hj0, aj⟩, ⟨gf, hf0, af⟩⟩ := id hP
  have hn6 : N_n N ≤ 6 := ok.1
  have hns : N_ns N ≤ 4 := ok.2.2.2.2.2.2.2.2.1
  have hw6 := ok.w6
  have aw : ∀ k, k < N_n N → gw k = nI (N_w N / 2 ^ k % 2) := aw
  have bx := ok.2.2.2.2.2.1
  have bi := ok.2.2.2.2.2.2.2.2.2.1
  refine ab_C.of (L := [some (.ref 56), none, none, none, none, none]) rfl rfl (Nat.le_of_ble_eq_true rfl) (fun l => ?_)
  have rounds : ∀ (d s : Nat), pop s < d → s < 2 ^ N_n N → ∀ (g8 g9 : Nat → Int32), (∀ k, k < N_n N → (s / 2 ^ k % 2 = 1 → trd N 6 (wil N) k = trd N (pop s) s k) ∧ (¬ s / 2 ^ k % 2 = 1 → g8 k = nI (trd N 6 (wil N) k))) → ab_W Y_M_trades none l (fun r m2 h2 => r = none ∧ m2 = m ∧ ∃ g8 g9 : Nat → Int32, h2 = ab_set (ab_set h 82 (.inl (6, g8))) 83 (.inl (6, g9)) ∧ ∀ k, k < N_n N → g8 k = nI (trd N 6 (wil N) k)) 44 [some (.ref 56), some (.int (nI s)), none, none, none, none] [] m (ab_set (ab_set h 82 (.inl (6, g8))) 83 (.inl (6, g9))) (0, 0) := by
    intro d
    induction d with
    | zero => exact fun s h => absurd h (Nat.not_lt_zero _)
    | succ d ihs0 =>
      intro s hd hs g8 g9 hinv
      have hs6 : s < 64 := two_le6 hn6 hs
      have ihs : ∀ s2, pop s2 < pop s → s2 < 2 ^ N_n N → ∀ (g8 g9 : Nat → Int32), (∀ k, k < N_n N → (s2 / 2 ^ k % 2 = 1 → trd N 6 (wil N) k = trd N (pop s2) s2 k) ∧ (¬ s2 / 2 ^ k % 2 = 1 → g8 k = nI (trd N 6 (wil N) k))) → ab_W Y_M_trades none l (fun r m2 h2 => r = none ∧ m2 = m ∧ ∃ g8 g9 : Nat → Int32, h2 = ab_set (ab_set h 82 (.inl (6, g8))) 83 (.inl (6, g9)) ∧ ∀ k, k < N_n N → g8 k = nI (trd N 6 (wil N) k)) 44 [some (.ref 56), some (.int (nI s2)), none, none, none, none] [] m (ab_set (ab_set h 82 (.inl (6, g8))) 83 (.inl (6, g9))) (0, 0) := fun s2 h1 h2 => ihs0 s2 (by omega) h2
      refine aw_iload_n d_M_trades_44 rfl ?_
      refine aw_if_eq (tgt := 189) d_M_trades_45 (by decide) (fun c45 => ?_) (fun c45 => ?_)
      · refine aw_return d_M_trades_189 rfl ?_
        have sz : s = 0 := (nI_eq (by omega) (by decide)).mp c45
        exact ⟨rfl, rfl, g8, g9, rfl, fun k hk => (hinv k hk).2 (by rw [sz]; exact b_zero k)⟩
      · refine aw_aload_n d_M_trades_48 rfl ?_
        refine aw_iload_n d_M_trades_49 rfl ?_
        have sn0 : ¬ s = 0 := fun z => c45 (by rw [z]; rfl)
        have hfn : ∀ k, k < N_n N → pts N s k < N_n N := fun k hk => by
          by_cases q : s / 2 ^ k % 2 = 1
          · exact (pts_in ok hs q).2
          · rw [pts_out q]; exact hk
        refine aw_v0 (a := 56) d_M_trades_50 k_M_322 ok_M_point rfl ⟨rfl, rfl⟩ cl_Model hM (c_point (h := ab_set (ab_set h 82 (.inl (6, g8))) 83 (.inl (6, g9))) hM ⟨⟨gx, hx, ax⟩, ⟨gy, hy, ay⟩, ⟨gm, hm, am⟩, ⟨gh, hh, ah⟩, ⟨gl, hl, al⟩, ⟨gw, hw, aw⟩, ⟨ga, ha0, aa⟩, ⟨gi, hi, ai⟩, ⟨gj, hj0, aj⟩, ⟨gf, hf0, af⟩⟩ ok hs (gp := g9) rfl) rfl rfl (Nat.le_of_ble_eq_true rfl) (fun r m2 h2 q => ?_)
        obtain ⟨rfl, em, g9, rfl, e9⟩ := q
        rw [em, ab_set_set]
        show ab_W _ _ _ _ 53 _ [] _ _ _
        refine aw_iconst (v := nI 0) d_M_trades_53 (by decide) ?_
        refine aw_istore_n (L' := [some (.ref 56), some (.int (nI s)), some (.int (nI 0)), none, none, none]) d_M_trades_54 ⟨by decide, rfl⟩ rfl ?_
        refine aw_iconst (v := nI 0) d_M_trades_55 (by decide) ?_
        refine aw_istore_n (L' := [some (.ref 56), some (.int (nI s)), some (.int (nI 0)), some (.int (nI 0)), none, none]) d_M_trades_56 ⟨by decide, rfl⟩ rfl ?_
        have loopw : ∀ ke w (g7 : Nat → Int32), w + ke = N_n N → (∀ k, k < N_n N → g7 k = if k < w then (if gon N s / 2 ^ k % 2 = 1 then nI (N_t N (pts N s k)) else g8 k) else g8 k) → ab_W Y_M_trades none l (fun r m2 h2 => r = none ∧ m2 = m ∧ ∃ g8 g9 : Nat → Int32, h2 = ab_set (ab_set h 82 (.inl (6, g8))) 83 (.inl (6, g9)) ∧ ∀ k, k < N_n N → g8 k = nI (trd N 6 (wil N) k)) 57 [some (.ref 56), some (.int (nI s)), some (.int (nI (gns (pts N s) s (w)))), some (.int (nI (w))), none, none] [] m (ab_set (ab_set h 82 (.inl (6, g7))) 83 (.inl (6, g9))) (0, 0) := by
          intro ke
          induction ke with
          | zero =>
            intro w g7 hw e0
            have hwn : N_n N = w := by omega
            subst hwn
            refine aw_iload_n d_M_trades_57 rfl ?_
            refine aw_aload_n d_M_trades_58 rfl ?_
            refine aw_get (k := 0) d_M_trades_59 cl_Model k_M_118 (by decide) hM rfl ?_
            refine aw_icmp_ge (tgt := 180) d_M_trades_62 (by decide) (fun c62 => ?_) (fun c62 => ?_)
            · refine aw_iload_n d_M_trades_180 rfl ?_
              refine aw_iload_n d_M_trades_181 rfl ?_
              refine aw_iconst (v := (-1)) d_M_trades_182 (by decide) ?_
              refine aw_ixor d_M_trades_183 ?_
              refine aw_iand d_M_trades_184 ?_
              refine aw_is (y := nI (s &&& (63 ^^^ gon N s))) (by rw [gns_n hs hn6, b_andn _ hs6 _ (gns_lt _ _ 6 (by decide))]) ?_
              refine aw_istore_n (L' := [some (.ref 56), some (.int (nI (s &&& (63 ^^^ gon N s)))), some (.int (nI (gns (pts N s) s (N_n N)))), some (.int (nI (N_n N))), none, none]) d_M_trades_185 ⟨by decide, rfl⟩ rfl ?_
              refine aw_goto (tgt := 44) d_M_trades_186 (by decide) ?_
              have hpop := gon_pop ok hs sn0
              refine aw_drop 2 (aw_drop 3 (ihs _ (by omega) (Nat.lt_of_le_of_lt Nat.and_le_left hs) g7 g9 (fun k hk => ?_)))
              have eg := e0 k hk
              rw [if_pos hk] at eg
              have z := (hinv k hk)
              by_cases b1 : s / 2 ^ k % 2 = 1
              · obtain ⟨f, ef⟩ : ∃ f, pop s = f + 1 := ⟨pop s - 1, by omega⟩
                by_cases b2 : gon N s / 2 ^ k % 2 = 1
                · refine ⟨fun b3 => ?_, fun _ => ?_⟩
                  · exact absurd b2 ((b_not _ (show k < 6 by omega)).mp ((b_and _ _ _).mp b3).2)
                  · rw [eg, if_pos b2, z.1 b1, ef, trd_g b1 b2]
                · have b3 : (s &&& (63 ^^^ gon N s)) / 2 ^ k % 2 = 1 := (b_and _ _ _).mpr ⟨b1, (b_not _ (show k < 6 by omega)).mpr b2⟩
                  refine ⟨fun _ => ?_, fun b4 => absurd b3 b4⟩
                  rw [z.1 b1, ef, trd_s b1 b2]
                  exact trd_ge ok k (Nat.lt_of_le_of_lt Nat.and_le_left hs) (by omega)
              · refine ⟨fun b3 => absurd ((b_and _ _ _).mp b3).1 b1, fun _ => ?_⟩
                rw [eg, ← z.2 b1]
                split
                · rename_i b2
                  exact absurd ((gns_bit _ _ _ _).mp b2).2.1 b1
                · rfl
            · exact absurd (Int32.le_refl _) c62
          | succ ke ihw =>
            intro w g7 hw e0
            refine aw_iload_n d_M_trades_57 rfl ?_
            refine aw_aload_n d_M_trades_58 rfl ?_
            refine aw_get (k := 0) d_M_trades_59 cl_Model k_M_118 (by decide) hM rfl ?_
            refine aw_icmp_ge (tgt := 180) d_M_trades_62 (by decide) (fun c62 => ?_) (fun c62 => ?_)
            · exact absurd c62 (nI_ge (by omega) (by omega))
            · refine aw_aload_n d_M_trades_65 rfl ?_
              refine aw_get (k := 39) d_M_trades_66 cl_Model k_M_100 (by decide) hM rfl ?_
              refine aw_iload_n d_M_trades_69 rfl ?_
              refine aw_ialoadN d_M_trades_70 rfl (by omega) (by decide) ?_
              rw [e9 w (by omega)]
              refine aw_istore (L' := [some (.ref 56), some (.int (nI s)), some (.int (nI (gns (pts N s) s (w)))), some (.int (nI (w))), some (.int (nI (pts N s w))), none]) d_M_trades_71 ⟨by decide, rfl⟩ rfl ?_
              refine aw_iconst (v := nI 0) d_M_trades_73 (by decide) ?_
              refine aw_istore (L' := [some (.ref 56), some (.int (nI s)), some (.int (nI (gns (pts N s) s (w)))), some (.int (nI (w))), some (.int (nI (pts N s w))), some (.int (nI 0))]) d_M_trades_74 ⟨by decide, rfl⟩ rfl ?_
              have cont2 : ∀ (o : Nat), o < N_n N → decide (o = w) = cyk (pts N s) w (N_n N + 1) w → ab_W Y_M_trades none l (fun r m2 h2 => r = none ∧ m2 = m ∧ ∃ g8 g9 : Nat → Int32, h2 = ab_set (ab_set h 82 (.inl (6, g8))) 83 (.inl (6, g9)) ∧ ∀ k, k < N_n N → g8 k = nI (trd N 6 (wil N) k)) 106 [some (.ref 56), some (.int (nI s)), some (.int (nI (gns (pts N s) s w))), some (.int (nI w)), some (.int (nI o)), none] [] m (ab_set (ab_set h 82 (.inl (6, g7))) 83 (.inl (6, g9))) (0, 0) := by
                intro o ho eo
                rw [← cyk_n (fun k hk => (hfn k hk)) (show w < N_n N by omega) hn6] at eo
                refine aw_iload_n d_M_trades_106 rfl ?_
                refine aw_iload_n d_M_trades_107 rfl ?_
                refine aw_ishr d_M_trades_108 ?_
                refine aw_iconst (v := nI 1) d_M_trades_109 (by decide) ?_
                refine aw_iand d_M_trades_110 ?_
                refine aw_iconst (v := nI 1) d_M_trades_111 (by decide) ?_
                rw [b_at (by omega) (by omega)]
                refine aw_icmp_ne (tgt := 125) d_M_trades_112 (by decide) (fun c112 => ?_) (fun c112 => ?_)
                · refine aw_iconst (v := nI 0) d_M_trades_125 (by decide) ?_
                  refine aw_istore (L' := [some (.ref 56), some (.int (nI s)), some (.int (nI (gns (pts N s) s w))), some (.int (nI w)), some (.int (nI o)), some (.int (nI 0))]) d_M_trades_126 ⟨by decide, rfl⟩ rfl ?_
                  refine aw_aload_n d_M_trades_128 rfl ?_
                  refine aw_get (k := 38) d_M_trades_129 cl_Model k_M_97 (by decide) hM rfl ?_
                  refine aw_iload_n d_M_trades_132 rfl ?_
                  refine aw_iload d_M_trades_133 rfl ?_
                  refine aw_if_eq (tgt := 152) d_M_trades_135 (by decide) (fun c135 => ?_) (fun c135 => ?_)
                  · refine aw_aload_n d_M_trades_152 rfl ?_
                    refine aw_get (k := 38) d_M_trades_153 cl_Model k_M_97 (by decide) hM rfl ?_
                    refine aw_iload_n d_M_trades_156 rfl ?_
                    refine aw_ialoadN d_M_trades_157 rfl (by omega) (by decide) ?_
                    refine aw_iastoreN d_M_trades_158 rfl (by omega) (by decide) ?_
                    refine aw_iload_n d_M_trades_159 rfl ?_
                    refine aw_iload d_M_trades_160 rfl ?_
                    refine aw_if_eq (tgt := 171) d_M_trades_162 (by decide) (fun c162 => ?_) (fun c162 => ?_)
                    · refine aw_iconst (v := nI 0) d_M_trades_171 (by decide) ?_
                      try rw [b_one (by omega)]
                      refine aw_ior d_M_trades_172 ?_
                      refine aw_topi (fun v173 ev173 => ?_)
                      refine aw_istore_n (L' := [some (.ref 56), some (.int (nI s)), some (.int v173), some (.int (nI w)), some (.int (nI o)), some (.int (nI 0))]) d_M_trades_173 ⟨by decide, rfl⟩ rfl ?_
                      refine aw_iinc (v := nI (w + 1)) (L' := [some (.ref 56), some (.int (nI s)), some (.int v173), some (.int (nI (w + 1))), some (.int (nI o)), some (.int (nI 0))]) d_M_trades_174 rfl (nI_1 _) ⟨by decide, rfl⟩ rfl ?_
                      refine aw_goto (tgt := 57) d_M_trades_177 (by decide) ?_
                      rw [ab_set_swap (show 83 ≠ 82 by decide), ab_set_set]
                      first
                        | (have gq : ¬ gon N s / 2 ^ w % 2 = 1 := fun z => by
                             have z := (gns_bit _ _ _ _).mp z
                             first
                               | exact c112 (b_1.mpr z.2.1)
                               | (rw [← eo] at z; exact c118 (by rw [of_decide_eq_true z.2.2]))
                           have gz : ¬ (s / 2 ^ w % 2 = 1 ∧ cyk (pts N s) w 6 w = true) := fun z => gq ((gns_bit _ _ _ _).mpr ⟨by omega, z⟩)
                           have ez : v173 = nI (gns (pts N s) s (w + 1)) := by rw [ev173, fa_or, Nat.or_zero]; exact congrArg nI (if_neg gz).symm
                           rw [ez]
                           exact aw_drop 4 (aw_drop 5 (ihw (w + 1) _ (by omega) (fun k hk => by
                             by_cases e : k = w
                             · subst e; rw [pk_us, if_pos (show k < k + 1 by omega)]; rw [if_neg gq, e0 k hk, if_neg (Nat.lt_irrefl k)]
                             · rw [pk_un e, e0 k hk]
                               by_cases e3 : k < w
                               · rw [if_pos e3, if_pos (show k < w + 1 by omega)]
                               · rw [if_neg e3, if_neg (show ¬ k < w + 1 by omega)]))))
                        | (have gz : s / 2 ^ w % 2 = 1 ∧ cyk (pts N s) w 6 w = true := ⟨b_1.mp c112, by rw [← eo]; exact decide_eq_true ((nI_eq (by omega) (by omega)).mp c118)⟩
                           have gy : gon N s / 2 ^ w % 2 = 1 := (gns_bit _ _ _ _).mpr ⟨by omega, gz⟩
                           have ez : v173 = nI (gns (pts N s) s (w + 1)) := by rw [ev173, fa_or]; exact congrArg nI (if_pos gz).symm
                           rw [ez]
                           exact aw_drop 4 (aw_drop 5 (ihw (w + 1) _ (by omega) (fun k hk => by
                             by_cases e : k = w
                             · subst e; rw [pk_us, if_pos (show k < k + 1 by omega)]; rw [if_pos gy]
                             · rw [pk_un e, e0 k hk]
                               by_cases e3 : k < w
                               · rw [if_pos e3, if_pos (show k < w + 1 by omega)]
                               · rw [if_neg e3, if_neg (show ¬ k < w + 1 by omega)]))))
                    · first | exact absurd c162 (by decide) | exact absurd (by decide) c162
                  · first | exact absurd c135 (by decide) | exact absurd (by decide) c135
                · refine aw_iload d_M_trades_115 rfl ?_
                  refine aw_iload_n d_M_trades_117 rfl ?_
                  refine aw_icmp_ne (tgt := 125) d_M_trades_118 (by decide) (fun c118 => ?_) (fun c118 => ?_)
                  · refine aw_iconst (v := nI 0) d_M_trades_125 (by decide) ?_
                    refine aw_istore (L' := [some (.ref 56), some (.int (nI s)), some (.int (nI (gns (pts N s) s w))), some (.int (nI w)), some (.int (nI o)), some (.int (nI 0))]) d_M_trades_126 ⟨by decide, rfl⟩ rfl ?_
                    refine aw_aload_n d_M_trades_128 rfl ?_
                    refine aw_get (k := 38) d_M_trades_129 cl_Model k_M_97 (by decide) hM rfl ?_
                    refine aw_iload_n d_M_trades_132 rfl ?_
                    refine aw_iload d_M_trades_133 rfl ?_
                    refine aw_if_eq (tgt := 152) d_M_trades_135 (by decide) (fun c135 => ?_) (fun c135 => ?_)
                    · refine aw_aload_n d_M_trades_152 rfl ?_
                      refine aw_get (k := 38) d_M_trades_153 cl_Model k_M_97 (by decide) hM rfl ?_
                      refine aw_iload_n d_M_trades_156 rfl ?_
                      refine aw_ialoadN d_M_trades_157 rfl (by omega) (by decide) ?_
                      refine aw_iastoreN d_M_trades_158 rfl (by omega) (by decide) ?_
                      refine aw_iload_n d_M_trades_159 rfl ?_
                      refine aw_iload d_M_trades_160 rfl ?_
                      refine aw_if_eq (tgt := 171) d_M_trades_162 (by decide) (fun c162 => ?_) (fun c162 => ?_)
                      · refine aw_iconst (v := nI 0) d_M_trades_171 (by decide) ?_
                        try rw [b_one (by omega)]
                        refine aw_ior d_M_trades_172 ?_
                        refine aw_topi (fun v173 ev173 => ?_)
                        refine aw_istore_n (L' := [some (.ref 56), some (.int (nI s)), some (.int v173), some (.int (nI w)), some (.int (nI o)), some (.int (nI 0))]) d_M_trades_173 ⟨by decide, rfl⟩ rfl ?_
                        refine aw_iinc (v := nI (w + 1)) (L' := [some (.ref 56), some (.int (nI s)), some (.int v173), some (.int (nI (w + 1))), some (.int (nI o)), some (.int (nI 0))]) d_M_trades_174 rfl (nI_1 _) ⟨by decide, rfl⟩ rfl ?_
                        refine aw_goto (tgt := 57) d_M_trades_177 (by decide) ?_
                        rw [ab_set_swap (show 83 ≠ 82 by decide), ab_set_set]
                        first
                          | (have gq : ¬ gon N s / 2 ^ w % 2 = 1 := fun z => by
                               have z := (gns_bit _ _ _ _).mp z
                               first
                                 | exact c112 (b_1.mpr z.2.1)
                                 | (rw [← eo] at z; exact c118 (by rw [of_decide_eq_true z.2.2]))
                             have gz : ¬ (s / 2 ^ w % 2 = 1 ∧ cyk (pts N s) w 6 w = true) := fun z => gq ((gns_bit _ _ _ _).mpr ⟨by omega, z⟩)
                             have ez : v173 = nI (gns (pts N s) s (w + 1)) := by rw [ev173, fa_or, Nat.or_zero]; exact congrArg nI (if_neg gz).symm
                             rw [ez]
                             exact aw_drop 4 (aw_drop 5 (ihw (w + 1) _ (by omega) (fun k hk => by
                               by_cases e : k = w
                               · subst e; rw [pk_us, if_pos (show k < k + 1 by omega)]; rw [if_neg gq, e0 k hk, if_neg (Nat.lt_irrefl k)]
                               · rw [pk_un e, e0 k hk]
                                 by_cases e3 : k < w
                                 · rw [if_pos e3, if_pos (show k < w + 1 by omega)]
                                 · rw [if_neg e3, if_neg (show ¬ k < w + 1 by omega)]))))
                          | (have gz : s / 2 ^ w % 2 = 1 ∧ cyk (pts N s) w 6 w = true := ⟨b_1.mp c112, by rw [← eo]; exact decide_eq_true ((nI_eq (by omega) (by omega)).mp c118)⟩
                             have gy : gon N s / 2 ^ w % 2 = 1 := (gns_bit _ _ _ _).mpr ⟨by omega, gz⟩
                             have ez : v173 = nI (gns (pts N s) s (w + 1)) := by rw [ev173, fa_or]; exact congrArg nI (if_pos gz).symm
                             rw [ez]
                             exact aw_drop 4 (aw_drop 5 (ihw (w + 1) _ (by omega) (fun k hk => by
                               by_cases e : k = w
                               · subst e; rw [pk_us, if_pos (show k < k + 1 by omega)]; rw [if_pos gy]
                               · rw [pk_un e, e0 k hk]
                                 by_cases e3 : k < w
                                 · rw [if_pos e3, if_pos (show k < w + 1 by omega)]
                                 · rw [if_neg e3, if_neg (show ¬ k < w + 1 by omega)]))))
                      · first | exact absurd c162 (by decide) | exact absurd (by decide) c162
                    · first | exact absurd c135 (by decide) | exact absurd (by decide) c135
                  · refine aw_iconst (v := nI 1) d_M_trades_121 (by decide) ?_
                    refine aw_goto (tgt := 126) d_M_trades_122 (by decide) ?_
                    refine aw_istore (L' := [some (.ref 56), some (.int (nI s)), some (.int (nI (gns (pts N s) s w))), some (.int (nI w)), some (.int (nI o)), some (.int (nI 1))]) d_M_trades_126 ⟨by decide, rfl⟩ rfl ?_
                    refine aw_aload_n d_M_trades_128 rfl ?_
                    refine aw_get (k := 38) d_M_trades_129 cl_Model k_M_97 (by decide) hM rfl ?_
                    refine aw_iload_n d_M_trades_132 rfl ?_
                    refine aw_iload d_M_trades_133 rfl ?_
                    refine aw_if_eq (tgt := 152) d_M_trades_135 (by decide) (fun c135 => ?_) (fun c135 => ?_)
                    · first | exact absurd c135 (by decide) | exact absurd (by decide) c135
                    · refine aw_aload_n d_M_trades_138 rfl ?_
                      refine aw_get (k := 4) d_M_trades_139 cl_Model k_M_19 (by decide) hM rfl ?_
                      refine aw_aload_n d_M_trades_142 rfl ?_
                      refine aw_get (k := 39) d_M_trades_143 cl_Model k_M_100 (by decide) hM rfl ?_
                      refine aw_iload_n d_M_trades_146 rfl ?_
                      refine aw_ialoadN d_M_trades_147 rfl (by omega) (by decide) ?_
                      rw [e9 w (by omega)]
                      refine aw_ialoadN d_M_trades_148 hh (Nat.lt_of_lt_of_le (hfn w (by omega)) hn6) (by decide) ?_
                      rw [ah _ (hfn w (by omega))]
                      refine aw_goto (tgt := 158) d_M_trades_149 (by decide) ?_
                      refine aw_iastoreN d_M_trades_158 rfl (by omega) (by decide) ?_
                      refine aw_iload_n d_M_trades_159 rfl ?_
                      refine aw_iload d_M_trades_160 rfl ?_
                      refine aw_if_eq (tgt := 171) d_M_trades_162 (by decide) (fun c162 => ?_) (fun c162 => ?_)
                      · first | exact absurd c162 (by decide) | exact absurd (by decide) c162
                      · refine aw_iconst (v := nI 1) d_M_trades_165 (by decide) ?_
                        refine aw_iload_n d_M_trades_166 rfl ?_
                        refine aw_ishl d_M_trades_167 ?_
                        refine aw_goto (tgt := 172) d_M_trades_168 (by decide) ?_
                        try rw [b_one (by omega)]
                        refine aw_ior d_M_trades_172 ?_
                        refine aw_topi (fun v173 ev173 => ?_)
                        refine aw_istore_n (L' := [some (.ref 56), some (.int (nI s)), some (.int v173), some (.int (nI w)), some (.int (nI o)), some (.int (nI 1))]) d_M_trades_173 ⟨by decide, rfl⟩ rfl ?_
                        refine aw_iinc (v := nI (w + 1)) (L' := [some (.ref 56), some (.int (nI s)), some (.int v173), some (.int (nI (w + 1))), some (.int (nI o)), some (.int (nI 1))]) d_M_trades_174 rfl (nI_1 _) ⟨by decide, rfl⟩ rfl ?_
                        refine aw_goto (tgt := 57) d_M_trades_177 (by decide) ?_
                        rw [ab_set_swap (show 83 ≠ 82 by decide), ab_set_set]
                        first
                          | (have gq : ¬ gon N s / 2 ^ w % 2 = 1 := fun z => by
                               have z := (gns_bit _ _ _ _).mp z
                               first
                                 | exact c112 (b_1.mpr z.2.1)
                                 | (rw [← eo] at z; exact c118 (by rw [of_decide_eq_true z.2.2]))
                             have gz : ¬ (s / 2 ^ w % 2 = 1 ∧ cyk (pts N s) w 6 w = true) := fun z => gq ((gns_bit _ _ _ _).mpr ⟨by omega, z⟩)
                             have ez : v173 = nI (gns (pts N s) s (w + 1)) := by rw [ev173, fa_or, Nat.or_zero]; exact congrArg nI (if_neg gz).symm
                             rw [ez]
                             exact aw_drop 4 (aw_drop 5 (ihw (w + 1) _ (by omega) (fun k hk => by
                               by_cases e : k = w
                               · subst e; rw [pk_us, if_pos (show k < k + 1 by omega)]; rw [if_neg gq, e0 k hk, if_neg (Nat.lt_irrefl k)]
                               · rw [pk_un e, e0 k hk]
                                 by_cases e3 : k < w
                                 · rw [if_pos e3, if_pos (show k < w + 1 by omega)]
                                 · rw [if_neg e3, if_neg (show ¬ k < w + 1 by omega)]))))
                          | (have gz : s / 2 ^ w % 2 = 1 ∧ cyk (pts N s) w 6 w = true := ⟨b_1.mp c112, by rw [← eo]; exact decide_eq_true ((nI_eq (by omega) (by omega)).mp c118)⟩
                             have gy : gon N s / 2 ^ w % 2 = 1 := (gns_bit _ _ _ _).mpr ⟨by omega, gz⟩
                             have ez : v173 = nI (gns (pts N s) s (w + 1)) := by rw [ev173, fa_or]; exact congrArg nI (if_pos gz).symm
                             rw [ez]
                             exact aw_drop 4 (aw_drop 5 (ihw (w + 1) _ (by omega) (fun k hk => by
                               by_cases e : k = w
                               · subst e; rw [pk_us, if_pos (show k < k + 1 by omega)]; rw [if_pos gy]
                               · rw [pk_un e, e0 k hk]
                                 by_cases e3 : k < w
                                 · rw [if_pos e3, if_pos (show k < w + 1 by omega)]
                                 · rw [if_neg e3, if_neg (show ¬ k < w + 1 by omega)]))))
              have loop3 : ∀ kf j (o : Nat), j + kf = N_n N → o < N_n N → (decide (o = w) || cyk (pts N s) w kf o) = cyk (pts N s) w (N_n N + 1) w → ab_W Y_M_trades none l (fun r m2 h2 => r = none ∧ m2 = m ∧ ∃ g8 g9 : Nat → Int32, h2 = ab_set (ab_set h 82 (.inl (6, g8))) 83 (.inl (6, g9)) ∧ ∀ k, k < N_n N → g8 k = nI (trd N 6 (wil N) k)) 76 [some (.ref 56), some (.int (nI s)), some (.int (nI (gns (pts N s) s w))), some (.int (nI w)), some (.int (nI o)), some (.int (nI (j)))] [] m (ab_set (ab_set h 82 (.inl (6, g7))) 83 (.inl (6, g9))) (0, 0) := by
                intro kf
                induction kf with
                | zero =>
                  intro j o hj ho eo
                  have hjn : N_n N = j := by omega
                  subst hjn
                  refine aw_iload d_M_trades_76 rfl ?_
                  refine aw_aload_n d_M_trades_78 rfl ?_
                  refine aw_get (k := 0) d_M_trades_79 cl_Model k_M_118 (by decide) hM rfl ?_
                  refine aw_icmp_ge (tgt := 106) d_M_trades_82 (by decide) (fun c82 => ?_) (fun c82 => ?_)
                  · exact aw_drop 5 (cont2 o ho (by rw [← eo]; show _ = (decide (o = w) || false); rw [Bool.or_false]))
                  · exact absurd (Int32.le_refl _) c82
                | succ kf ih3 =>
                  intro j o hj ho eo
                  refine aw_iload d_M_trades_76 rfl ?_
                  refine aw_aload_n d_M_trades_78 rfl ?_
                  refine aw_get (k := 0) d_M_trades_79 cl_Model k_M_118 (by decide) hM rfl ?_
                  refine aw_icmp_ge (tgt := 106) d_M_trades_82 (by decide) (fun c82 => ?_) (fun c82 => ?_)
                  · exact absurd c82 (nI_ge (by omega) (by omega))
                  · refine aw_iload d_M_trades_85 rfl ?_
                    refine aw_iload_n d_M_trades_87 rfl ?_
                    refine aw_icmp_eq (tgt := 106) d_M_trades_88 (by decide) (fun c88 => ?_) (fun c88 => ?_)
                    · exact aw_drop 5 (cont2 o ho (by have z := (nI_eq (by omega) (by omega)).mp c88; rw [← eo, decide_eq_true z, Bool.true_or]))
                    · refine aw_aload_n d_M_trades_91 rfl ?_
                      refine aw_get (k := 39) d_M_trades_92 cl_Model k_M_100 (by decide) hM rfl ?_
                      refine aw_iload d_M_trades_95 rfl ?_
                      refine aw_ialoadN d_M_trades_97 rfl (by omega) (by decide) ?_
                      rw [e9 o ho]
                      refine aw_istore (L' := [some (.ref 56), some (.int (nI s)), some (.int (nI (gns (pts N s) s w))), some (.int (nI w)), some (.int (nI (pts N s o))), some (.int (nI (j)))]) d_M_trades_98 ⟨by decide, rfl⟩ rfl ?_
                      refine aw_iinc (v := nI ((j) + 1)) (L' := [some (.ref 56), some (.int (nI s)), some (.int (nI (gns (pts N s) s w))), some (.int (nI w)), some (.int (nI (pts N s o))), some (.int (nI ((j) + 1)))]) d_M_trades_100 rfl (nI_1 _) ⟨by decide, rfl⟩ rfl ?_
                      refine aw_goto (tgt := 76) d_M_trades_103 (by decide) ?_
                      have no : ¬ o = w := fun z => c88 (by rw [z])
                      exact ih3 (j + 1) (pts N s o) (by omega) (hfn _ ho) (by rw [← eo, decide_eq_false no, Bool.false_or]; rfl)
              exact loop3 (N_n N) 0 (pts N s w) (by omega) (hfn w (by omega)) rfl
        exact loopw (N_n N) 0 g8 (by omega) (fun k hk => by rw [if_neg (Nat.not_lt_zero _)])
  have loop1 : ∀ kf j (g8 : Nat → Int32), j + kf = N_n N → (∀ k, k < j → g8 k = nI (N_t N k)) → ab_W Y_M_trades none l (fun r m2 h2 => r = none ∧ m2 = m ∧ ∃ g8 g9 : Nat → Int32, h2 = ab_set (ab_set h 82 (.inl (6, g8))) 83 (.inl (6, g9)) ∧ ∀ k, k < N_n N → g8 k = nI (trd N 6 (wil N) k)) 18 [some (.ref 56), some (.int (nI (wil N))), some (.int (nI (j))), none, none, none] [] m (ab_set (ab_set h 82 (.inl (6, g8))) 83 (.inl (6, gq))) (0, 0) := by
    intro kf
    induction kf with
    | zero =>
      intro j g8 hj e0
      have hjn : N_n N = j := by omega
      subst hjn
      refine aw_iload_n d_M_trades_18 rfl ?_
      refine aw_aload_n d_M_trades_19 rfl ?_
      refine aw_get (k := 0) d_M_trades_20 cl_Model k_M_118 (by decide) hM rfl ?_
      refine aw_icmp_ge (tgt := 44) d_M_trades_23 (by decide) (fun c23 => ?_) (fun c23 => ?_)
      · refine aw_drop 2 (rounds 7 (wil N) (by have := pop_le (wil N); omega) (wil_lt N) g8 gq (fun k hk => ⟨fun _ => trd_ge ok k (wil_lt N) (pop_le _), fun z => by rw [e0 k hk, trd_o z]⟩))
      · exact absurd (Int32.le_refl _) c23
    | succ kf ih =>
      intro j g8 hj e0
      refine aw_iload_n d_M_trades_18 rfl ?_
      refine aw_aload_n d_M_trades_19 rfl ?_
      refine aw_get (k := 0) d_M_trades_20 cl_Model k_M_118 (by decide) hM rfl ?_
      refine aw_icmp_ge (tgt := 44) d_M_trades_23 (by decide) (fun c23 => ?_) (fun c23 => ?_)
      · exact absurd c23 (nI_ge (by omega) (by omega))
      · refine aw_aload_n d_M_trades_26 rfl ?_
        refine aw_get (k := 38) d_M_trades_27 cl_Model k_M_97 (by decide) hM rfl ?_
        refine aw_iload_n d_M_trades_30 rfl ?_
        refine aw_aload_n d_M_trades_31 rfl ?_
        refine aw_get (k := 4) d_M_trades_32 cl_Model k_M_19 (by decide) hM rfl ?_
        refine aw_iload_n d_M_trades_35 rfl ?_
        refine aw_ialoadN d_M_trades_36 hh (by omega) (by decide) ?_
        refine aw_iastoreN d_M_trades_37 rfl (by omega) (by decide) ?_
        refine aw_iinc (v := nI ((j) + 1)) (L' := [some (.ref 56), some (.int (nI (wil N))), some (.int (nI ((j) + 1))), none, none, none]) d_M_trades_38 rfl (nI_1 _) ⟨by decide, rfl⟩ rfl ?_
        refine aw_goto (tgt := 18) d_M_trades_41 (by decide) ?_
        rw [ab_set_swap (show 83 ≠ 82 by decide), ab_set_set]
        rw [ah j (by omega)]
        exact ih (j + 1) _ (by omega) (fun k hk => by
          by_cases e : k = j
          · subst e; exact pk_us
          · rw [pk_un e]; exact e0 k (by omega))
  refine aw_iconst (v := nI 1) d_M_trades_0 (by decide) ?_
  refine aw_aload_n d_M_trades_1 rfl ?_
  refine aw_get (k := 0) d_M_trades_2 cl_Model k_M_118 (by decide) hM rfl ?_
  refine aw_ishl d_M_trades_5 ?_
  refine aw_iconst (v := nI 1) d_M_trades_6 (by decide) ?_
  refine aw_isub d_M_trades_7 ?_
  rw [b_all hn6]
  refine aw_aload_n d_M_trades_8 rfl ?_
  refine aw_v0i (a := 56) d_M_trades_9 k_M_205 ok_M_unwilling rfl ⟨rfl, rfl⟩ cl_Model hM (c_unwilling hM hP ok) rfl rfl (Nat.le_of_ble_eq_true rfl) ?_
  refine aw_iconst (v := (-1)) d_M_trades_12 (by decide) ?_
  refine aw_ixor d_M_trades_13 ?_
  refine aw_iand d_M_trades_14 ?_
  rw [b_andn _ (b_63 _ hn6) _ hw6]
  refine aw_istore_n (L' := [some (.ref 56), some (.int (nI (wil N))), none, none, none, none]) d_M_trades_15 ⟨by decide, rfl⟩ rfl ?_
  refine aw_iconst (v := nI 0) d_M_trades_16 (by decide) ?_
  refine aw_istore_n (L' := [some (.ref 56), some (.int (nI (wil N))), some (.int (nI 0)), none, none, none]) d_M_trades_17 ⟨by decide, rfl⟩ rfl ?_
  have e82 : ab_set (ab_set h 82 (.inl (6, gp))) 83 (.inl (6, gq)) = h := by rw [ab_set_eq hp, ab_set_eq hq9]
  exact aw_heap e82 (loop1 (N_n N) 0 gp (by omega) (fun k hk => absurd hk (Nat.not_lt_zero _)))
