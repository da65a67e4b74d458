theorem cls_bd {n : Nat} {mk g : Nat → Nat} {len a : Nat} {d : Nat → Nat} (k : Nat) : (cls n mk g len a d).2.2 k ≤ d k := by
  unfold cls
  split
  · exact Nat.le_refl _
  · split
    · exact Nat.le_refl _
    · split
      · exact Nat.le_refl _
      · show ud d _ _ k ≤ d k
        by_cases q : k = sg g len (a1 g len a) - 97
        · rw [q, ud_s]
          unfold ndr
          split <;> exact Nat.and_le_left
        · rw [ud_n q]
          exact Nat.le_refl _
theorem h77 (h : ab_H) (e1 e2 e3 e4 : ab_E) : ab_set (ab_set (ab_set (ab_set h 56 e1) 77 e2) 56 e3) 77 e4 = ab_set (ab_set h 56 e3) 77 e4 := by
  rw [ab_set_swap (a := 77) (b := 56) (by decide), ab_set_set, ab_set_set]
theorem h56 (h : ab_H) (e1 e2 e3 : ab_E) : ab_set (ab_set (ab_set h 56 e1) 77 e2) 56 e3 = ab_set (ab_set h 56 e3) 77 e2 := by
  rw [ab_set_swap (a := 77) (b := 56) (by decide), ab_set_set]
theorem y_facts {V : VV} {m c : Nat} {h : ab_H} {S : SS} (hM : PM V c h S) (ok : S_ok S) (hc : c < 900) (hV : V_ok V) : CM V Y_M_facts [] m c h (fun r S2 => (r, S2) = sp_facts S) := by
  obtain ⟨⟨tab, la, at_, wr, ve, fs, ft, m0, m1, m2, m3, m4, m5, m6⟩, ⟨n0, n1, n2, n3, n4, n5, n6, n7, n8, n9⟩, q1, q2, q3, q4⟩ := id hM
  have hn6 : N_n (S_N S) ≤ 6 := ok.1.1
  have hnT := nI_toInt (show N_n (S_N S) < 2 ^ 31 by omega)
  have htl : S_tl S ≤ 100 := ok.2.2.1
  obtain ⟨g0, t1, t2⟩ := id q1
  obtain ⟨gm, hm, am⟩ := id n2
  obtain ⟨ga, ha0, aa⟩ := id n6
  obtain ⟨r0, r1, r2, r3, r4, r5, r6, r7, ⟨gr0, hr0⟩, r9⟩ := q3
  have hsg : ∀ k, k < S_tl S → S_ts S k = nI (cl (S_ts S k)) ∧ 32 ≤ cl (S_ts S k) ∧ cl (S_ts S k) ≤ 126 := fun k hk => by
    obtain ⟨j, j1, j2, j3⟩ := ok.2.2.2.1 k hk
    rw [j3, cl_nI (by omega)]
    exact ⟨rfl, j1, j2⟩
  have ag : ∀ k, k < S_tl S → g0 k = nI ((fun k => cl (S_ts S k)) k) := fun k hk => (t2 k hk).trans (hsg k hk).1
  have hg : ∀ k, k < S_tl S → (fun k => cl (S_ts S k)) k < 127 := fun k hk => by have := (hsg k hk).2.2; show cl (S_ts S k) < 127; omega
  refine ab_C.of (L := [some (.ref 56), none, none, none]) rfl rfl (Nat.le_of_ble_eq_true rfl) (fun l => ?_)
  have exw : ∀ (cnt b : Nat) (gr : Nat → Int32) (d : Nat → Nat), b ≤ (S_tl S) → fcs S = (false, cnt, b, d) → ab_W Y_M_facts none l (fun r m2 h2 => ∃ (v : Int32) (S2 : SS), r = some (.int v) ∧ (v, S2) = sp_facts S ∧ PM V (c + 1) h2 S2 ∧ m2 = m ∧ ∀ k, (k < 56 ∨ 88 < k) → h2 k = h k) 102 [some (.ref 56), some (.int (nI cnt)), some (.int (nI 0)), none] [] m (ab_set (ab_set h 56 (oM (N_n (S_N S)) (N_ns (S_N S)) (N_ra (S_N S)) (N_se (S_N S)) (N_me (S_N S)) (N_mi (S_N S)) tab (nI ve) la (S_tl S) (nI b) (nI 1) (N_fe (S_N S)) (S_K S).isSome)) 77 (.inl (6, gr))) (0, 0) := by
    intro cnt b gr d hb eF
    refine aw_aload_n d_M_facts_102 rfl ?_
    refine aw_aload_n d_M_facts_103 rfl ?_
    refine aw_get (k := 31) d_M_facts_104 cl_Model k_M_281 (by decide) rfl rfl ?_
    refine aw_if_ne (tgt := 117) d_M_facts_107 (by decide) (fun c107 => ?_) (fun c107 => ?_)
    · refine aw_iconst (v := nI 1) d_M_facts_117 (by decide) ?_
      refine aw_goto (tgt := 122) d_M_facts_118 (by decide) ?_
      refine aw_put (k := 31) (fs' := [.int (nI (N_n (S_N S))), .ref 57, .ref 58, .ref 59, .ref 60, .ref 61, .ref 62, .ref 63, .int (nI (N_ns (S_N S))), .ref 64, .ref 65, .int (nI (N_ra (S_N S))), .int (nI (N_se (S_N S))), .int (N_me (S_N S)), .int (N_mi (S_N S)), .ref 66, .ref 67, .int tab, .ref 68, .ref 69, .ref 70, .ref 71, .ref 72, .ref 73, .ref 74, .int (nI ve), .int la, .ref 75, .ref 76, .int (nI (S_tl S)), .int (nI b), .int (nI 1), .ref 77, .ref 78, .int (nI (N_fe (S_N S))), .ref 79, .ref 80, .ref 81, .ref 82, .ref 83, .ref 84, .int (ab_bl (S_K S).isSome), .ref 85, .ref 86, .ref 87, .ref 88]) d_M_facts_122 cl_Model k_M_281 (by decide) rfl ⟨by decide, by decide⟩ rfl (Nat.le_of_ble_eq_true rfl) rfl ?_
      refine aw_aload_n d_M_facts_125 rfl ?_
      refine aw_iconst (v := nI 0) d_M_facts_126 (by decide) ?_
      refine aw_put (k := 29) (fs' := [.int (nI (N_n (S_N S))), .ref 57, .ref 58, .ref 59, .ref 60, .ref 61, .ref 62, .ref 63, .int (nI (N_ns (S_N S))), .ref 64, .ref 65, .int (nI (N_ra (S_N S))), .int (nI (N_se (S_N S))), .int (N_me (S_N S)), .int (N_mi (S_N S)), .ref 66, .ref 67, .int tab, .ref 68, .ref 69, .ref 70, .ref 71, .ref 72, .ref 73, .ref 74, .int (nI ve), .int la, .ref 75, .ref 76, .int (nI 0), .int (nI b), .int (nI 1), .ref 77, .ref 78, .int (nI (N_fe (S_N S))), .ref 79, .ref 80, .ref 81, .ref 82, .ref 83, .ref 84, .int (ab_bl (S_K S).isSome), .ref 85, .ref 86, .ref 87, .ref 88]) d_M_facts_127 cl_Model k_M_275 (by decide) rfl ⟨rfl, rfl⟩ rfl (Nat.le_of_ble_eq_true rfl) rfl ?_
      refine aw_aload_n d_M_facts_130 rfl ?_
      refine aw_get (k := 31) d_M_facts_131 cl_Model k_M_281 (by decide) rfl rfl ?_
      refine aw_if_eq (tgt := 145) d_M_facts_134 (by decide) (fun c134 => ?_) (fun c134 => ?_)
      · first | exact absurd c134 (by decide) | exact absurd (by decide) c134
      · refine aw_bipush (v := (-20)) d_M_facts_137 (by decide) ?_
        refine aw_aload_n d_M_facts_139 rfl ?_
        refine aw_get (k := 30) d_M_facts_140 cl_Model k_M_278 (by decide) rfl rfl ?_
        refine aw_isub d_M_facts_143 ?_
        refine aw_ireturn d_M_facts_144 rfl rfl ?_
        refine ⟨_, S_tl_ S 0, rfl, ?_, ⟨⟨tab, la, _, _, ve, fs, ft, rfl, by omega, by omega, ?_, m4, m5, ?_⟩, ⟨n0, n1, n2, n3, n4, n5, n6, n7, n8, n9⟩, ⟨g0, t1, fun k hk => absurd hk (Nat.not_lt_zero _)⟩, q2, ⟨r0, r1, r2, r3, r4, r5, r6, r7, ⟨_, rfl⟩, r9⟩, q4⟩, rfl, fun k hk => by simp only [ab_set]; repeat rw [if_neg (by omega)]⟩
        · unfold sp_facts
          rw [eF]
          rfl
        · exact Or.inr rfl
        · exact m6
    · first | exact absurd c107 (by decide) | exact absurd (by decide) c107
  have exn : ∀ (cnt b : Nat) (gr : Nat → Int32) (d : Nat → Nat), b ≤ (S_tl S) → (∀ k, k < (N_n (S_N S)) → gr k = nI (d k)) → fcs S = (decide ((sg (fun k => cl (S_ts S k)) (S_tl S) (lk (fun k => cl (S_ts S k)) (S_tl S) b)) = 0), cnt, (lk (fun k => cl (S_ts S k)) (S_tl S) b), d) → ab_W Y_M_facts none l (fun r m2 h2 => ∃ (v : Int32) (S2 : SS), r = some (.int v) ∧ (v, S2) = sp_facts S ∧ PM V (c + 1) h2 S2 ∧ m2 = m ∧ ∀ k, (k < 56 ∨ 88 < k) → h2 k = h k) 102 [some (.ref 56), some (.int (nI cnt)), some (.int (nI 0)), none] [] m (ab_set (ab_set h 56 (oM (N_n (S_N S)) (N_ns (S_N S)) (N_ra (S_N S)) (N_se (S_N S)) (N_me (S_N S)) (N_mi (S_N S)) tab (nI ve) la (S_tl S) (nI b) (nI 0) (N_fe (S_N S)) (S_K S).isSome)) 77 (.inl (6, gr))) (0, 0) := by
    intro cnt b gr d hb er eF
    have s127 := sg_127 hg (lk (fun k => cl (S_ts S k)) (S_tl S) b)
    refine aw_aload_n d_M_facts_102 rfl ?_
    refine aw_aload_n d_M_facts_103 rfl ?_
    refine aw_get (k := 31) d_M_facts_104 cl_Model k_M_281 (by decide) rfl rfl ?_
    refine aw_if_ne (tgt := 117) d_M_facts_107 (by decide) (fun c107 => ?_) (fun c107 => ?_)
    · first | exact absurd c107 (by decide) | exact absurd (by decide) c107
    · refine aw_aload_n d_M_facts_110 rfl ?_
      refine aw_v0i (a := 56) d_M_facts_111 k_M_285 ok_M_here rfl ⟨rfl, rfl⟩ cl_Model rfl (c_here (h := ab_set (ab_set h 56 (oM (N_n (S_N S)) (N_ns (S_N S)) (N_ra (S_N S)) (N_se (S_N S)) (N_me (S_N S)) (N_mi (S_N S)) tab (nI ve) la (S_tl S) (nI b) (nI 0) (N_fe (S_N S)) (S_K S).isSome)) 77 (.inl (6, gr))) (a := b) rfl t1 htl ag hg hb) rfl rfl (Nat.le_of_ble_eq_true rfl) ?_
      rw [h56]
      refine aw_if_eq (tgt := 121) d_M_facts_114 (by decide) (fun c114 => ?_) (fun c114 => ?_)
      · have k0 : (sg (fun k => cl (S_ts S k)) (S_tl S) (lk (fun k => cl (S_ts S k)) (S_tl S) b)) = 0 := (nI_eq (b := 0) (by omega) (by decide)).mp c114
        rw [decide_eq_true k0] at eF
        refine aw_iconst (v := nI 0) d_M_facts_121 (by decide) ?_
        refine aw_put (k := 31) (fs' := [.int (nI (N_n (S_N S))), .ref 57, .ref 58, .ref 59, .ref 60, .ref 61, .ref 62, .ref 63, .int (nI (N_ns (S_N S))), .ref 64, .ref 65, .int (nI (N_ra (S_N S))), .int (nI (N_se (S_N S))), .int (N_me (S_N S)), .int (N_mi (S_N S)), .ref 66, .ref 67, .int tab, .ref 68, .ref 69, .ref 70, .ref 71, .ref 72, .ref 73, .ref 74, .int (nI ve), .int la, .ref 75, .ref 76, .int (nI (S_tl S)), .int (nI (lk (fun k => cl (S_ts S k)) (S_tl S) b)), .int (nI 0), .ref 77, .ref 78, .int (nI (N_fe (S_N S))), .ref 79, .ref 80, .ref 81, .ref 82, .ref 83, .ref 84, .int (ab_bl (S_K S).isSome), .ref 85, .ref 86, .ref 87, .ref 88]) d_M_facts_122 cl_Model k_M_281 (by decide) rfl ⟨by decide, by decide⟩ rfl (Nat.le_of_ble_eq_true rfl) rfl ?_
        rw [h56]
        refine aw_aload_n d_M_facts_125 rfl ?_
        refine aw_iconst (v := nI 0) d_M_facts_126 (by decide) ?_
        refine aw_put (k := 29) (fs' := [.int (nI (N_n (S_N S))), .ref 57, .ref 58, .ref 59, .ref 60, .ref 61, .ref 62, .ref 63, .int (nI (N_ns (S_N S))), .ref 64, .ref 65, .int (nI (N_ra (S_N S))), .int (nI (N_se (S_N S))), .int (N_me (S_N S)), .int (N_mi (S_N S)), .ref 66, .ref 67, .int tab, .ref 68, .ref 69, .ref 70, .ref 71, .ref 72, .ref 73, .ref 74, .int (nI ve), .int la, .ref 75, .ref 76, .int (nI 0), .int (nI (lk (fun k => cl (S_ts S k)) (S_tl S) b)), .int (nI 0), .ref 77, .ref 78, .int (nI (N_fe (S_N S))), .ref 79, .ref 80, .ref 81, .ref 82, .ref 83, .ref 84, .int (ab_bl (S_K S).isSome), .ref 85, .ref 86, .ref 87, .ref 88]) d_M_facts_127 cl_Model k_M_275 (by decide) rfl ⟨rfl, rfl⟩ rfl (Nat.le_of_ble_eq_true rfl) rfl ?_
        rw [h56]
        refine aw_aload_n d_M_facts_130 rfl ?_
        refine aw_get (k := 31) d_M_facts_131 cl_Model k_M_281 (by decide) rfl rfl ?_
        refine aw_if_eq (tgt := 145) d_M_facts_134 (by decide) (fun c134 => ?_) (fun c134 => ?_)
        · refine aw_iconst (v := nI 0) d_M_facts_145 (by decide) ?_
          refine aw_istore_n (L' := [some (.ref 56), some (.int (nI cnt)), some (.int (nI 0)), some (.int (nI 0))]) d_M_facts_146 ⟨by decide, rfl⟩ rfl ?_
          generalize (lk (fun k => cl (S_ts S k)) (S_tl S) b) = b at eF ⊢
          obtain ⟨ga, ha0, aa⟩ := id n6
          have lcopy : ∀ kf j (gm6 : Nat → Int32), j + kf = N_n (S_N S) → (∀ k, k < j → gm6 k = nI (d k)) → ab_W Y_M_facts none l (fun r m2 h2 => ∃ (v : Int32) (S2 : SS), r = some (.int v) ∧ (v, S2) = sp_facts S ∧ PM V (c + 1) h2 S2 ∧ m2 = m ∧ ∀ k, (k < 56 ∨ 88 < k) → h2 k = h k) 147 [some (.ref 56), some (.int (nI cnt)), some (.int (nI 0)), some (.int (nI (j)))] [] m (ab_set (ab_set (ab_set h 56 (oM (N_n (S_N S)) (N_ns (S_N S)) (N_ra (S_N S)) (N_se (S_N S)) (N_me (S_N S)) (N_mi (S_N S)) tab (nI ve) la 0 (nI b) (nI 0) (N_fe (S_N S)) (S_K S).isSome)) 77 (.inl (6, gr))) 63 (.inl (6, gm6))) (0, 0) := by
            intro kf
            induction kf with
            | zero =>
              intro j gm6 hj em
              have hjn : N_n (S_N S) = j := by omega
              subst hjn
              refine aw_iload_n d_M_facts_147 rfl ?_
              refine aw_aload_n d_M_facts_148 rfl ?_
              refine aw_get (k := 0) d_M_facts_149 cl_Model k_M_118 (by decide) rfl rfl ?_
              refine aw_icmp_ge (tgt := 173) d_M_facts_152 (by decide) (fun c152 => ?_) (fun c152 => ?_)
              · refine aw_iload_n d_M_facts_173 rfl ?_
                refine aw_ireturn d_M_facts_174 rfl rfl ?_
                refine ⟨_, S_tl_ (S_N_ S (N_ma_ (S_N S) d)) 0, rfl, ?_, ⟨⟨tab, la, _, _, ve, fs, ft, rfl, by omega, by omega, ?_, m4, m5, ?_⟩, ⟨n0, n1, n2, n3, n4, n5, ⟨gm6, rfl, em⟩, n7, n8, n9⟩, ⟨g0, t1, fun k hk => absurd hk (Nat.not_lt_zero _)⟩, q2, ⟨r0, r1, r2, r3, r4, r5, r6, r7, ⟨_, rfl⟩, r9⟩, q4⟩, rfl, fun k hk => by simp only [ab_set]; repeat rw [if_neg (by omega)]⟩
                · unfold sp_facts
                  rw [eF]
                  rfl
                · exact Or.inl rfl
                · rw [show V.2.2.2.2 (S_N (S_tl_ (S_N_ S (N_ma_ (S_N S) d)) 0)) = V.2.2.2.2 (S_N S) from (hV.2.2.1 _ _).2.2.2]
                  exact m6
              · exact absurd (Int32.le_refl _) c152
            | succ kf ih2 =>
              intro j gm6 hj em
              refine aw_iload_n d_M_facts_147 rfl ?_
              refine aw_aload_n d_M_facts_148 rfl ?_
              refine aw_get (k := 0) d_M_facts_149 cl_Model k_M_118 (by decide) rfl rfl ?_
              refine aw_icmp_ge (tgt := 173) d_M_facts_152 (by decide) (fun c152 => ?_) (fun c152 => ?_)
              · exact absurd c152 (nI_ge (by omega) (by omega))
              · refine aw_aload_n d_M_facts_155 rfl ?_
                refine aw_get (k := 7) d_M_facts_156 cl_Model k_M_28 (by decide) rfl rfl ?_
                refine aw_iload_n d_M_facts_159 rfl ?_
                refine aw_aload_n d_M_facts_160 rfl ?_
                refine aw_get (k := 32) d_M_facts_161 cl_Model k_M_82 (by decide) rfl rfl ?_
                refine aw_iload_n d_M_facts_164 rfl ?_
                refine aw_ialoadN d_M_facts_165 rfl (by omega) (by decide) ?_
                refine aw_iastoreN d_M_facts_166 rfl (by omega) (by decide) ?_
                refine aw_iinc (v := nI ((j) + 1)) (L' := [some (.ref 56), some (.int (nI cnt)), some (.int (nI 0)), some (.int (nI ((j) + 1)))]) d_M_facts_167 rfl (nI_1 _) ⟨by decide, rfl⟩ rfl ?_
                refine aw_goto (tgt := 147) d_M_facts_170 (by decide) ?_
                rw [ab_set_set]
                exact ih2 (j + 1) _ (by omega) (fun k hk => by
                  by_cases e : k = j
                  · subst e; rw [pk_us]; exact er k (by omega)
                  · rw [pk_un e]; exact em k (by omega))
          exact aw_heap (ab_set_eq (h := ab_set (ab_set h 56 _) 77 _) (a := 63) ha0) (lcopy (N_n (S_N S)) 0 ga (by omega) (fun k hk => absurd hk (Nat.not_lt_zero _)))
        · first | exact absurd c134 (by decide) | exact absurd (by decide) c134
      · have k0 : ¬ (sg (fun k => cl (S_ts S k)) (S_tl S) (lk (fun k => cl (S_ts S k)) (S_tl S) b)) = 0 := fun z => c114 (by rw [z]; rfl)
        rw [decide_eq_false k0] at eF
        refine aw_iconst (v := nI 1) d_M_facts_117 (by decide) ?_
        refine aw_goto (tgt := 122) d_M_facts_118 (by decide) ?_
        refine aw_put (k := 31) (fs' := [.int (nI (N_n (S_N S))), .ref 57, .ref 58, .ref 59, .ref 60, .ref 61, .ref 62, .ref 63, .int (nI (N_ns (S_N S))), .ref 64, .ref 65, .int (nI (N_ra (S_N S))), .int (nI (N_se (S_N S))), .int (N_me (S_N S)), .int (N_mi (S_N S)), .ref 66, .ref 67, .int tab, .ref 68, .ref 69, .ref 70, .ref 71, .ref 72, .ref 73, .ref 74, .int (nI ve), .int la, .ref 75, .ref 76, .int (nI (S_tl S)), .int (nI (lk (fun k => cl (S_ts S k)) (S_tl S) b)), .int (nI 1), .ref 77, .ref 78, .int (nI (N_fe (S_N S))), .ref 79, .ref 80, .ref 81, .ref 82, .ref 83, .ref 84, .int (ab_bl (S_K S).isSome), .ref 85, .ref 86, .ref 87, .ref 88]) d_M_facts_122 cl_Model k_M_281 (by decide) rfl ⟨by decide, by decide⟩ rfl (Nat.le_of_ble_eq_true rfl) rfl ?_
        rw [h56]
        refine aw_aload_n d_M_facts_125 rfl ?_
        refine aw_iconst (v := nI 0) d_M_facts_126 (by decide) ?_
        refine aw_put (k := 29) (fs' := [.int (nI (N_n (S_N S))), .ref 57, .ref 58, .ref 59, .ref 60, .ref 61, .ref 62, .ref 63, .int (nI (N_ns (S_N S))), .ref 64, .ref 65, .int (nI (N_ra (S_N S))), .int (nI (N_se (S_N S))), .int (N_me (S_N S)), .int (N_mi (S_N S)), .ref 66, .ref 67, .int tab, .ref 68, .ref 69, .ref 70, .ref 71, .ref 72, .ref 73, .ref 74, .int (nI ve), .int la, .ref 75, .ref 76, .int (nI 0), .int (nI (lk (fun k => cl (S_ts S k)) (S_tl S) b)), .int (nI 1), .ref 77, .ref 78, .int (nI (N_fe (S_N S))), .ref 79, .ref 80, .ref 81, .ref 82, .ref 83, .ref 84, .int (ab_bl (S_K S).isSome), .ref 85, .ref 86, .ref 87, .ref 88]) d_M_facts_127 cl_Model k_M_275 (by decide) rfl ⟨rfl, rfl⟩ rfl (Nat.le_of_ble_eq_true rfl) rfl ?_
        rw [h56]
        refine aw_aload_n d_M_facts_130 rfl ?_
        refine aw_get (k := 31) d_M_facts_131 cl_Model k_M_281 (by decide) rfl rfl ?_
        refine aw_if_eq (tgt := 145) d_M_facts_134 (by decide) (fun c134 => ?_) (fun c134 => ?_)
        · first | exact absurd c134 (by decide) | exact absurd (by decide) c134
        · refine aw_bipush (v := (-20)) d_M_facts_137 (by decide) ?_
          refine aw_aload_n d_M_facts_139 rfl ?_
          refine aw_get (k := 30) d_M_facts_140 cl_Model k_M_278 (by decide) rfl rfl ?_
          refine aw_isub d_M_facts_143 ?_
          refine aw_ireturn d_M_facts_144 rfl rfl ?_
          refine ⟨_, S_tl_ S 0, rfl, ?_, ⟨⟨tab, la, _, _, ve, fs, ft, rfl, by omega, by omega, ?_, m4, m5, ?_⟩, ⟨n0, n1, n2, n3, n4, n5, n6, n7, n8, n9⟩, ⟨g0, t1, fun k hk => absurd hk (Nat.not_lt_zero _)⟩, q2, ⟨r0, r1, r2, r3, r4, r5, r6, r7, ⟨_, rfl⟩, r9⟩, q4⟩, rfl, fun k hk => by simp only [ab_set]; repeat rw [if_neg (by omega)]⟩
          · unfold sp_facts
            rw [eF]
            rfl
          · exact Or.inr rfl
          · exact m6
  have loop : ∀ r c9 a d gr, c9 + r = 11 → a ≤ (S_tl S) → fcs S = (rcl (N_n (S_N S)) (N_mk (S_N S)) (fun k => cl (S_ts S k)) (S_tl S) r (c9 + 1) a d) → (∀ k, k < (N_n (S_N S)) → gr k = nI (d k)) → (∀ k, k < (N_n (S_N S)) → d k < 2 ^ (N_n (S_N S))) → ab_W Y_M_facts none l (fun r m2 h2 => ∃ (v : Int32) (S2 : SS), r = some (.int v) ∧ (v, S2) = sp_facts S ∧ PM V (c + 1) h2 S2 ∧ m2 = m ∧ ∀ k, (k < 56 ∨ 88 < k) → h2 k = h k) 42 [some (.ref 56), some (.int (nI c9)), some (.int (nI 1)), none] [] m (ab_set (ab_set h 56 (oM (N_n (S_N S)) (N_ns (S_N S)) (N_ra (S_N S)) (N_se (S_N S)) (N_me (S_N S)) (N_mi (S_N S)) tab (nI ve) la (S_tl S) (nI a) (nI 0) (N_fe (S_N S)) (S_K S).isSome)) 77 (.inl (6, gr))) (0, 0) := by
    intro r
    induction r with
    | zero =>
      intro c9 a d gr hc9 hal eF er bd
      have hc2 : 11 = c9 := by omega
      subst hc2
      refine aw_iload_n d_M_facts_42 rfl ?_
      refine aw_if_eq (tgt := 102) d_M_facts_43 (by decide) (fun c43 => ?_) (fun c43 => ?_)
      · first | exact absurd c43 (by decide) | exact absurd (by decide) c43
      · refine aw_aload_n d_M_facts_46 rfl ?_
        refine aw_v0 (a := 56) d_M_facts_47 k_M_290 ok_M_clause rfl ⟨rfl, rfl⟩ cl_Model rfl (c_clause (h := ab_set (ab_set h 56 (oM (N_n (S_N S)) (N_ns (S_N S)) (N_ra (S_N S)) (N_se (S_N S)) (N_me (S_N S)) (N_mi (S_N S)) tab (nI ve) la (S_tl S) (nI a) (nI 0) (N_fe (S_N S)) (S_K S).isSome)) 77 (.inl (6, gr))) (a := a) rfl t1 htl ag hg hal hn6 hm am (fun k hk => (ok.1.2.2.2.2.2.1 k hk).2.2) rfl er bd) rfl rfl (Nat.le_of_ble_eq_true rfl) (fun r9 m9 h9 q => ?_)
        obtain ⟨rfl, em, gr2, rfl, e2⟩ := q
        rw [em, h77]
        show ab_W _ _ _ _ 50 _ [] _ _ _
        have hcl : (cls (N_n (S_N S)) (N_mk (S_N S)) (fun k => cl (S_ts S k)) (S_tl S) a d).2.1 ≤ (S_tl S) := cls_le hal
        have bd2 : ∀ k, k < N_n (S_N S) → (cls (N_n (S_N S)) (N_mk (S_N S)) (fun k => cl (S_ts S k)) (S_tl S) a d).2.2 k < 2 ^ N_n (S_N S) := fun k hk => Nat.lt_of_le_of_lt (cls_bd k) (bd k hk)
        have hll := lk_le (g := (fun k => cl (S_ts S k))) hcl
        have s127 := sg_127 hg (lk (fun k => cl (S_ts S k)) (S_tl S) (cls (N_n (S_N S)) (N_mk (S_N S)) (fun k => cl (S_ts S k)) (S_tl S) a d).2.1)
        by_cases k1 : (cls (N_n (S_N S)) (N_mk (S_N S)) (fun k => cl (S_ts S k)) (S_tl S) a d).1 = true
        · rw [k1]
          show ab_W _ _ _ _ 50 _ [] _ (ab_set (ab_set h 56 (oM (N_n (S_N S)) (N_ns (S_N S)) (N_ra (S_N S)) (N_se (S_N S)) (N_me (S_N S)) (N_mi (S_N S)) tab (nI ve) la (S_tl S) (nI (cls (N_n (S_N S)) (N_mk (S_N S)) (fun k => cl (S_ts S k)) (S_tl S) a d).2.1) (nI 0) (N_fe (S_N S)) (S_K S).isSome)) 77 (.inl (6, gr2))) _
          refine aw_iinc (v := nI 12) (L' := [some (.ref 56), some (.int (nI 12)), some (.int (nI 1)), none]) d_M_facts_50 rfl (by decide) ⟨by decide, rfl⟩ rfl ?_
          refine aw_aload_n d_M_facts_53 rfl ?_
          refine aw_get (k := 31) d_M_facts_54 cl_Model k_M_281 (by decide) rfl rfl ?_
          refine aw_if_ne (tgt := 79) d_M_facts_57 (by decide) (fun c57 => ?_) (fun c57 => ?_)
          · first | exact absurd c57 (by decide) | exact absurd (by decide) c57
          · refine aw_iload_n d_M_facts_60 rfl ?_
            refine aw_bipush (v := nI 12) d_M_facts_61 (by decide) ?_
            refine aw_icmp_ge (tgt := 79) d_M_facts_63 (by decide) (fun c63 => ?_) (fun c63 => ?_)
            · refine aw_iconst (v := nI 0) d_M_facts_79 (by decide) ?_
              refine aw_istore_n (L' := [some (.ref 56), some (.int (nI 12)), some (.int (nI 0)), none]) d_M_facts_80 ⟨by decide, rfl⟩ rfl ?_
              refine aw_aload_n d_M_facts_81 rfl ?_
              refine aw_dup d_M_facts_82 rfl ?_
              refine aw_get (k := 30) d_M_facts_83 cl_Model k_M_278 (by decide) rfl rfl ?_
              refine aw_iload_n d_M_facts_86 rfl ?_
              refine aw_if_eq (tgt := 94) d_M_facts_87 (by decide) (fun c87 => ?_) (fun c87 => ?_)
              · refine aw_iconst (v := nI 0) d_M_facts_94 (by decide) ?_
                refine aw_iadd d_M_facts_95 ?_
                rw [nI_add, Nat.add_zero]
                refine aw_put (k := 30) (fs' := [.int (nI (N_n (S_N S))), .ref 57, .ref 58, .ref 59, .ref 60, .ref 61, .ref 62, .ref 63, .int (nI (N_ns (S_N S))), .ref 64, .ref 65, .int (nI (N_ra (S_N S))), .int (nI (N_se (S_N S))), .int (N_me (S_N S)), .int (N_mi (S_N S)), .ref 66, .ref 67, .int tab, .ref 68, .ref 69, .ref 70, .ref 71, .ref 72, .ref 73, .ref 74, .int (nI ve), .int la, .ref 75, .ref 76, .int (nI (S_tl S)), .int (nI ((cls (N_n (S_N S)) (N_mk (S_N S)) (fun k => cl (S_ts S k)) (S_tl S) a d).2.1)), .int (nI 0), .ref 77, .ref 78, .int (nI (N_fe (S_N S))), .ref 79, .ref 80, .ref 81, .ref 82, .ref 83, .ref 84, .int (ab_bl (S_K S).isSome), .ref 85, .ref 86, .ref 87, .ref 88]) d_M_facts_96 cl_Model k_M_278 (by decide) rfl ⟨rfl, rfl⟩ rfl (Nat.le_of_ble_eq_true rfl) rfl ?_
                rw [h56]
                refine aw_goto (tgt := 42) d_M_facts_99 (by decide) ?_
                refine aw_iload_n d_M_facts_42 rfl ?_
                refine aw_if_eq (tgt := 102) d_M_facts_43 (by decide) (fun c43 => ?_) (fun c43 => ?_)
                · have e9 : (rcl (N_n (S_N S)) (N_mk (S_N S)) (fun k => cl (S_ts S k)) (S_tl S) 0 12 a d) = (decide (sg (fun k => cl (S_ts S k)) (S_tl S) (lk (fun k => cl (S_ts S k)) (S_tl S) (cls (N_n (S_N S)) (N_mk (S_N S)) (fun k => cl (S_ts S k)) (S_tl S) a d).2.1) = 0), 12, (lk (fun k => cl (S_ts S k)) (S_tl S) (cls (N_n (S_N S)) (N_mk (S_N S)) (fun k => cl (S_ts S k)) (S_tl S) a d).2.1), (cls (N_n (S_N S)) (N_mk (S_N S)) (fun k => cl (S_ts S k)) (S_tl S) a d).2.2) := by
                    rw [rcl, k1]
                    rfl
                  exact exn _ _ gr2 _ hcl e2 (eF.trans e9)
                · first | exact absurd c43 (by decide) | exact absurd (by decide) c43
              · first | exact absurd c87 (by decide) | exact absurd (by decide) c87
            · first | exact absurd c63 (by decide) | exact absurd (by decide) c63
        · rw [Bool.not_eq_true _ |>.mp k1]
          show ab_W _ _ _ _ 50 _ [] _ (ab_set (ab_set h 56 (oM (N_n (S_N S)) (N_ns (S_N S)) (N_ra (S_N S)) (N_se (S_N S)) (N_me (S_N S)) (N_mi (S_N S)) tab (nI ve) la (S_tl S) (nI (cls (N_n (S_N S)) (N_mk (S_N S)) (fun k => cl (S_ts S k)) (S_tl S) a d).2.1) (nI 1) (N_fe (S_N S)) (S_K S).isSome)) 77 (.inl (6, gr2))) _
          refine aw_iinc (v := nI 12) (L' := [some (.ref 56), some (.int (nI 12)), some (.int (nI 1)), none]) d_M_facts_50 rfl (by decide) ⟨by decide, rfl⟩ rfl ?_
          refine aw_aload_n d_M_facts_53 rfl ?_
          refine aw_get (k := 31) d_M_facts_54 cl_Model k_M_281 (by decide) rfl rfl ?_
          refine aw_if_ne (tgt := 79) d_M_facts_57 (by decide) (fun c57 => ?_) (fun c57 => ?_)
          · refine aw_iconst (v := nI 0) d_M_facts_79 (by decide) ?_
            refine aw_istore_n (L' := [some (.ref 56), some (.int (nI 12)), some (.int (nI 0)), none]) d_M_facts_80 ⟨by decide, rfl⟩ rfl ?_
            refine aw_aload_n d_M_facts_81 rfl ?_
            refine aw_dup d_M_facts_82 rfl ?_
            refine aw_get (k := 30) d_M_facts_83 cl_Model k_M_278 (by decide) rfl rfl ?_
            refine aw_iload_n d_M_facts_86 rfl ?_
            refine aw_if_eq (tgt := 94) d_M_facts_87 (by decide) (fun c87 => ?_) (fun c87 => ?_)
            · refine aw_iconst (v := nI 0) d_M_facts_94 (by decide) ?_
              refine aw_iadd d_M_facts_95 ?_
              rw [nI_add, Nat.add_zero]
              refine aw_put (k := 30) (fs' := [.int (nI (N_n (S_N S))), .ref 57, .ref 58, .ref 59, .ref 60, .ref 61, .ref 62, .ref 63, .int (nI (N_ns (S_N S))), .ref 64, .ref 65, .int (nI (N_ra (S_N S))), .int (nI (N_se (S_N S))), .int (N_me (S_N S)), .int (N_mi (S_N S)), .ref 66, .ref 67, .int tab, .ref 68, .ref 69, .ref 70, .ref 71, .ref 72, .ref 73, .ref 74, .int (nI ve), .int la, .ref 75, .ref 76, .int (nI (S_tl S)), .int (nI ((cls (N_n (S_N S)) (N_mk (S_N S)) (fun k => cl (S_ts S k)) (S_tl S) a d).2.1)), .int (nI 1), .ref 77, .ref 78, .int (nI (N_fe (S_N S))), .ref 79, .ref 80, .ref 81, .ref 82, .ref 83, .ref 84, .int (ab_bl (S_K S).isSome), .ref 85, .ref 86, .ref 87, .ref 88]) d_M_facts_96 cl_Model k_M_278 (by decide) rfl ⟨rfl, rfl⟩ rfl (Nat.le_of_ble_eq_true rfl) rfl ?_
              rw [h56]
              refine aw_goto (tgt := 42) d_M_facts_99 (by decide) ?_
              refine aw_iload_n d_M_facts_42 rfl ?_
              refine aw_if_eq (tgt := 102) d_M_facts_43 (by decide) (fun c43 => ?_) (fun c43 => ?_)
              · have e9 : (rcl (N_n (S_N S)) (N_mk (S_N S)) (fun k => cl (S_ts S k)) (S_tl S) 0 12 a d) = (false, 12, (cls (N_n (S_N S)) (N_mk (S_N S)) (fun k => cl (S_ts S k)) (S_tl S) a d).2.1, (cls (N_n (S_N S)) (N_mk (S_N S)) (fun k => cl (S_ts S k)) (S_tl S) a d).2.2) := by
                  rw [rcl]
                  rw [Bool.not_eq_true _ |>.mp k1]; rfl
                exact exw _ _ gr2 _ hcl (eF.trans e9)
              · first | exact absurd c43 (by decide) | exact absurd (by decide) c43
            · first | exact absurd c87 (by decide) | exact absurd (by decide) c87
          · first | exact absurd c57 (by decide) | exact absurd (by decide) c57
    | succ r ih =>
      intro c9 a d gr hc9 hal eF er bd
      refine aw_iload_n d_M_facts_42 rfl ?_
      refine aw_if_eq (tgt := 102) d_M_facts_43 (by decide) (fun c43 => ?_) (fun c43 => ?_)
      · first | exact absurd c43 (by decide) | exact absurd (by decide) c43
      · refine aw_aload_n d_M_facts_46 rfl ?_
        refine aw_v0 (a := 56) d_M_facts_47 k_M_290 ok_M_clause rfl ⟨rfl, rfl⟩ cl_Model rfl (c_clause (h := ab_set (ab_set h 56 (oM (N_n (S_N S)) (N_ns (S_N S)) (N_ra (S_N S)) (N_se (S_N S)) (N_me (S_N S)) (N_mi (S_N S)) tab (nI ve) la (S_tl S) (nI a) (nI 0) (N_fe (S_N S)) (S_K S).isSome)) 77 (.inl (6, gr))) (a := a) rfl t1 htl ag hg hal hn6 hm am (fun k hk => (ok.1.2.2.2.2.2.1 k hk).2.2) rfl er bd) rfl rfl (Nat.le_of_ble_eq_true rfl) (fun r9 m9 h9 q => ?_)
        obtain ⟨rfl, em, gr2, rfl, e2⟩ := q
        rw [em, h77]
        show ab_W _ _ _ _ 50 _ [] _ _ _
        have hcl : (cls (N_n (S_N S)) (N_mk (S_N S)) (fun k => cl (S_ts S k)) (S_tl S) a d).2.1 ≤ (S_tl S) := cls_le hal
        have bd2 : ∀ k, k < N_n (S_N S) → (cls (N_n (S_N S)) (N_mk (S_N S)) (fun k => cl (S_ts S k)) (S_tl S) a d).2.2 k < 2 ^ N_n (S_N S) := fun k hk => Nat.lt_of_le_of_lt (cls_bd k) (bd k hk)
        have hll := lk_le (g := (fun k => cl (S_ts S k))) hcl
        have s127 := sg_127 hg (lk (fun k => cl (S_ts S k)) (S_tl S) (cls (N_n (S_N S)) (N_mk (S_N S)) (fun k => cl (S_ts S k)) (S_tl S) a d).2.1)
        by_cases k1 : (cls (N_n (S_N S)) (N_mk (S_N S)) (fun k => cl (S_ts S k)) (S_tl S) a d).1 = true
        · rw [k1]
          show ab_W _ _ _ _ 50 _ [] _ (ab_set (ab_set h 56 (oM (N_n (S_N S)) (N_ns (S_N S)) (N_ra (S_N S)) (N_se (S_N S)) (N_me (S_N S)) (N_mi (S_N S)) tab (nI ve) la (S_tl S) (nI (cls (N_n (S_N S)) (N_mk (S_N S)) (fun k => cl (S_ts S k)) (S_tl S) a d).2.1) (nI 0) (N_fe (S_N S)) (S_K S).isSome)) 77 (.inl (6, gr2))) _
          refine aw_iinc (v := nI (c9 + 1)) (L' := [some (.ref 56), some (.int (nI (c9 + 1))), some (.int (nI 1)), none]) d_M_facts_50 rfl (nI_1 _) ⟨by decide, rfl⟩ rfl ?_
          refine aw_aload_n d_M_facts_53 rfl ?_
          refine aw_get (k := 31) d_M_facts_54 cl_Model k_M_281 (by decide) rfl rfl ?_
          refine aw_if_ne (tgt := 79) d_M_facts_57 (by decide) (fun c57 => ?_) (fun c57 => ?_)
          · first | exact absurd c57 (by decide) | exact absurd (by decide) c57
          · refine aw_iload_n d_M_facts_60 rfl ?_
            refine aw_bipush (v := nI 12) d_M_facts_61 (by decide) ?_
            refine aw_icmp_ge (tgt := 79) d_M_facts_63 (by decide) (fun c63 => ?_) (fun c63 => ?_)
            · exact absurd c63 (nI_ge (by omega) (by omega))
            · refine aw_aload_n d_M_facts_66 rfl ?_
              refine aw_v0i (a := 56) d_M_facts_67 k_M_285 ok_M_here rfl ⟨rfl, rfl⟩ cl_Model rfl (c_here (h := ab_set (ab_set h 56 (oM (N_n (S_N S)) (N_ns (S_N S)) (N_ra (S_N S)) (N_se (S_N S)) (N_me (S_N S)) (N_mi (S_N S)) tab (nI ve) la (S_tl S) (nI (cls (N_n (S_N S)) (N_mk (S_N S)) (fun k => cl (S_ts S k)) (S_tl S) a d).2.1) (nI 0) (N_fe (S_N S)) (S_K S).isSome)) 77 (.inl (6, gr2))) (a := (cls (N_n (S_N S)) (N_mk (S_N S)) (fun k => cl (S_ts S k)) (S_tl S) a d).2.1) rfl t1 htl ag hg hcl) rfl rfl (Nat.le_of_ble_eq_true rfl) ?_
              rw [h56]
              refine aw_bipush (v := nI 59) d_M_facts_70 (by decide) ?_
              refine aw_icmp_ne (tgt := 79) d_M_facts_72 (by decide) (fun c72 => ?_) (fun c72 => ?_)
              · refine aw_iconst (v := nI 0) d_M_facts_79 (by decide) ?_
                refine aw_istore_n (L' := [some (.ref 56), some (.int (nI (c9 + 1))), some (.int (nI 0)), none]) d_M_facts_80 ⟨by decide, rfl⟩ rfl ?_
                refine aw_aload_n d_M_facts_81 rfl ?_
                refine aw_dup d_M_facts_82 rfl ?_
                refine aw_get (k := 30) d_M_facts_83 cl_Model k_M_278 (by decide) rfl rfl ?_
                refine aw_iload_n d_M_facts_86 rfl ?_
                refine aw_if_eq (tgt := 94) d_M_facts_87 (by decide) (fun c87 => ?_) (fun c87 => ?_)
                · refine aw_iconst (v := nI 0) d_M_facts_94 (by decide) ?_
                  refine aw_iadd d_M_facts_95 ?_
                  refine aw_topi (fun v96 ev96 => ?_)
                  refine aw_put (k := 30) (fs' := [.int (nI (N_n (S_N S))), .ref 57, .ref 58, .ref 59, .ref 60, .ref 61, .ref 62, .ref 63, .int (nI (N_ns (S_N S))), .ref 64, .ref 65, .int (nI (N_ra (S_N S))), .int (nI (N_se (S_N S))), .int (N_me (S_N S)), .int (N_mi (S_N S)), .ref 66, .ref 67, .int tab, .ref 68, .ref 69, .ref 70, .ref 71, .ref 72, .ref 73, .ref 74, .int (nI ve), .int la, .ref 75, .ref 76, .int (nI (S_tl S)), .int v96, .int (nI 0), .ref 77, .ref 78, .int (nI (N_fe (S_N S))), .ref 79, .ref 80, .ref 81, .ref 82, .ref 83, .ref 84, .int (ab_bl (S_K S).isSome), .ref 85, .ref 86, .ref 87, .ref 88]) d_M_facts_96 cl_Model k_M_278 (by decide) rfl ⟨rfl, rfl⟩ rfl (Nat.le_of_ble_eq_true rfl) rfl ?_
                  rw [h56]
                  refine aw_goto (tgt := 42) d_M_facts_99 (by decide) ?_
                  first
                    | (rw [ev96, nI_add]
                       have k3 : sg (fun k => cl (S_ts S k)) (S_tl S) (lk (fun k => cl (S_ts S k)) (S_tl S) (cls (N_n (S_N S)) (N_mk (S_N S)) (fun k => cl (S_ts S k)) (S_tl S) a d).2.1) = 59 := (nI_eq (by omega) (by decide)).mp c72
                       have k4 : (lk (fun k => cl (S_ts S k)) (S_tl S) (cls (N_n (S_N S)) (N_mk (S_N S)) (fun k => cl (S_ts S k)) (S_tl S) a d).2.1) < (S_tl S) := sg_lt (b := 1) (by decide) (by rw [k3]; decide)
                       have e9 : (rcl (N_n (S_N S)) (N_mk (S_N S)) (fun k => cl (S_ts S k)) (S_tl S) (r + 1) (c9 + 1) a d) = rcl (N_n (S_N S)) (N_mk (S_N S)) (fun k => cl (S_ts S k)) (S_tl S) r (c9 + 1 + 1) ((lk (fun k => cl (S_ts S k)) (S_tl S) (cls (N_n (S_N S)) (N_mk (S_N S)) (fun k => cl (S_ts S k)) (S_tl S) a d).2.1) + 1) (cls (N_n (S_N S)) (N_mk (S_N S)) (fun k => cl (S_ts S k)) (S_tl S) a d).2.2 := by
                         rw [rcl, if_neg (fun z => z k1), if_neg (by rw [k3]; decide), if_neg (fun z => z k3)]
                       exact ih (c9 + 1) ((lk (fun k => cl (S_ts S k)) (S_tl S) (cls (N_n (S_N S)) (N_mk (S_N S)) (fun k => cl (S_ts S k)) (S_tl S) a d).2.1) + 1) (cls (N_n (S_N S)) (N_mk (S_N S)) (fun k => cl (S_ts S k)) (S_tl S) a d).2.2 gr2 (by omega) (by omega) (eF.trans e9) e2 bd2)
                    | (have k3 : ¬ sg (fun k => cl (S_ts S k)) (S_tl S) (lk (fun k => cl (S_ts S k)) (S_tl S) (cls (N_n (S_N S)) (N_mk (S_N S)) (fun k => cl (S_ts S k)) (S_tl S) a d).2.1) = 59 := fun z => c72 (by rw [z])
                       rw [ev96, nI_add, Nat.add_zero]
                       have e9 : (rcl (N_n (S_N S)) (N_mk (S_N S)) (fun k => cl (S_ts S k)) (S_tl S) (r + 1) (c9 + 1) a d) = (decide (sg (fun k => cl (S_ts S k)) (S_tl S) (lk (fun k => cl (S_ts S k)) (S_tl S) (lk (fun k => cl (S_ts S k)) (S_tl S) (cls (N_n (S_N S)) (N_mk (S_N S)) (fun k => cl (S_ts S k)) (S_tl S) a d).2.1)) = 0), c9 + 1, lk (fun k => cl (S_ts S k)) (S_tl S) (lk (fun k => cl (S_ts S k)) (S_tl S) (cls (N_n (S_N S)) (N_mk (S_N S)) (fun k => cl (S_ts S k)) (S_tl S) a d).2.1), (cls (N_n (S_N S)) (N_mk (S_N S)) (fun k => cl (S_ts S k)) (S_tl S) a d).2.2) := by
                         rw [lk_lk, rcl, if_neg (fun z => z k1)]
                         by_cases k5 : sg (fun k => cl (S_ts S k)) (S_tl S) (lk (fun k => cl (S_ts S k)) (S_tl S) (cls (N_n (S_N S)) (N_mk (S_N S)) (fun k => cl (S_ts S k)) (S_tl S) a d).2.1) = 0
                         · rw [if_pos k5, decide_eq_true k5]
                         · rw [if_neg k5, decide_eq_false k5, if_pos k3]
                       refine aw_iload_n d_M_facts_42 rfl ?_
                       refine aw_if_eq (tgt := 102) d_M_facts_43 (by decide) (fun c43 => ?_) (fun c43 => ?_)
                       · exact exn _ _ gr2 _ hll.2 e2 (eF.trans e9)
                       · first | exact absurd c43 (by decide) | exact absurd (by decide) c43)
                · first | exact absurd c87 (by decide) | exact absurd (by decide) c87
              · refine aw_iconst (v := nI 1) d_M_facts_75 (by decide) ?_
                refine aw_goto (tgt := 80) d_M_facts_76 (by decide) ?_
                refine aw_istore_n (L' := [some (.ref 56), some (.int (nI (c9 + 1))), some (.int (nI 1)), none]) d_M_facts_80 ⟨by decide, rfl⟩ rfl ?_
                refine aw_aload_n d_M_facts_81 rfl ?_
                refine aw_dup d_M_facts_82 rfl ?_
                refine aw_get (k := 30) d_M_facts_83 cl_Model k_M_278 (by decide) rfl rfl ?_
                refine aw_iload_n d_M_facts_86 rfl ?_
                refine aw_if_eq (tgt := 94) d_M_facts_87 (by decide) (fun c87 => ?_) (fun c87 => ?_)
                · first | exact absurd c87 (by decide) | exact absurd (by decide) c87
                · refine aw_iconst (v := nI 1) d_M_facts_90 (by decide) ?_
                  refine aw_goto (tgt := 95) d_M_facts_91 (by decide) ?_
                  refine aw_iadd d_M_facts_95 ?_
                  refine aw_topi (fun v96 ev96 => ?_)
                  refine aw_put (k := 30) (fs' := [.int (nI (N_n (S_N S))), .ref 57, .ref 58, .ref 59, .ref 60, .ref 61, .ref 62, .ref 63, .int (nI (N_ns (S_N S))), .ref 64, .ref 65, .int (nI (N_ra (S_N S))), .int (nI (N_se (S_N S))), .int (N_me (S_N S)), .int (N_mi (S_N S)), .ref 66, .ref 67, .int tab, .ref 68, .ref 69, .ref 70, .ref 71, .ref 72, .ref 73, .ref 74, .int (nI ve), .int la, .ref 75, .ref 76, .int (nI (S_tl S)), .int v96, .int (nI 0), .ref 77, .ref 78, .int (nI (N_fe (S_N S))), .ref 79, .ref 80, .ref 81, .ref 82, .ref 83, .ref 84, .int (ab_bl (S_K S).isSome), .ref 85, .ref 86, .ref 87, .ref 88]) d_M_facts_96 cl_Model k_M_278 (by decide) rfl ⟨rfl, rfl⟩ rfl (Nat.le_of_ble_eq_true rfl) rfl ?_
                  rw [h56]
                  refine aw_goto (tgt := 42) d_M_facts_99 (by decide) ?_
                  first
                    | (rw [ev96, nI_add]
                       have k3 : sg (fun k => cl (S_ts S k)) (S_tl S) (lk (fun k => cl (S_ts S k)) (S_tl S) (cls (N_n (S_N S)) (N_mk (S_N S)) (fun k => cl (S_ts S k)) (S_tl S) a d).2.1) = 59 := (nI_eq (by omega) (by decide)).mp c72
                       have k4 : (lk (fun k => cl (S_ts S k)) (S_tl S) (cls (N_n (S_N S)) (N_mk (S_N S)) (fun k => cl (S_ts S k)) (S_tl S) a d).2.1) < (S_tl S) := sg_lt (b := 1) (by decide) (by rw [k3]; decide)
                       have e9 : (rcl (N_n (S_N S)) (N_mk (S_N S)) (fun k => cl (S_ts S k)) (S_tl S) (r + 1) (c9 + 1) a d) = rcl (N_n (S_N S)) (N_mk (S_N S)) (fun k => cl (S_ts S k)) (S_tl S) r (c9 + 1 + 1) ((lk (fun k => cl (S_ts S k)) (S_tl S) (cls (N_n (S_N S)) (N_mk (S_N S)) (fun k => cl (S_ts S k)) (S_tl S) a d).2.1) + 1) (cls (N_n (S_N S)) (N_mk (S_N S)) (fun k => cl (S_ts S k)) (S_tl S) a d).2.2 := by
                         rw [rcl, if_neg (fun z => z k1), if_neg (by rw [k3]; decide), if_neg (fun z => z k3)]
                       exact ih (c9 + 1) ((lk (fun k => cl (S_ts S k)) (S_tl S) (cls (N_n (S_N S)) (N_mk (S_N S)) (fun k => cl (S_ts S k)) (S_tl S) a d).2.1) + 1) (cls (N_n (S_N S)) (N_mk (S_N S)) (fun k => cl (S_ts S k)) (S_tl S) a d).2.2 gr2 (by omega) (by omega) (eF.trans e9) e2 bd2)
                    | (have k3 : ¬ sg (fun k => cl (S_ts S k)) (S_tl S) (lk (fun k => cl (S_ts S k)) (S_tl S) (cls (N_n (S_N S)) (N_mk (S_N S)) (fun k => cl (S_ts S k)) (S_tl S) a d).2.1) = 59 := fun z => c72 (by rw [z])
                       rw [ev96, nI_add, Nat.add_zero]
                       have e9 : (rcl (N_n (S_N S)) (N_mk (S_N S)) (fun k => cl (S_ts S k)) (S_tl S) (r + 1) (c9 + 1) a d) = (decide (sg (fun k => cl (S_ts S k)) (S_tl S) (lk (fun k => cl (S_ts S k)) (S_tl S) (lk (fun k => cl (S_ts S k)) (S_tl S) (cls (N_n (S_N S)) (N_mk (S_N S)) (fun k => cl (S_ts S k)) (S_tl S) a d).2.1)) = 0), c9 + 1, lk (fun k => cl (S_ts S k)) (S_tl S) (lk (fun k => cl (S_ts S k)) (S_tl S) (cls (N_n (S_N S)) (N_mk (S_N S)) (fun k => cl (S_ts S k)) (S_tl S) a d).2.1), (cls (N_n (S_N S)) (N_mk (S_N S)) (fun k => cl (S_ts S k)) (S_tl S) a d).2.2) := by
                         rw [lk_lk, rcl, if_neg (fun z => z k1)]
                         by_cases k5 : sg (fun k => cl (S_ts S k)) (S_tl S) (lk (fun k => cl (S_ts S k)) (S_tl S) (cls (N_n (S_N S)) (N_mk (S_N S)) (fun k => cl (S_ts S k)) (S_tl S) a d).2.1) = 0
                         · rw [if_pos k5, decide_eq_true k5]
                         · rw [if_neg k5, decide_eq_false k5, if_pos k3]
                       refine aw_iload_n d_M_facts_42 rfl ?_
                       refine aw_if_eq (tgt := 102) d_M_facts_43 (by decide) (fun c43 => ?_) (fun c43 => ?_)
                       · exact exn _ _ gr2 _ hll.2 e2 (eF.trans e9)
                       · first | exact absurd c43 (by decide) | exact absurd (by decide) c43)
        · rw [Bool.not_eq_true _ |>.mp k1]
          show ab_W _ _ _ _ 50 _ [] _ (ab_set (ab_set h 56 (oM (N_n (S_N S)) (N_ns (S_N S)) (N_ra (S_N S)) (N_se (S_N S)) (N_me (S_N S)) (N_mi (S_N S)) tab (nI ve) la (S_tl S) (nI (cls (N_n (S_N S)) (N_mk (S_N S)) (fun k => cl (S_ts S k)) (S_tl S) a d).2.1) (nI 1) (N_fe (S_N S)) (S_K S).isSome)) 77 (.inl (6, gr2))) _
          refine aw_iinc (v := nI (c9 + 1)) (L' := [some (.ref 56), some (.int (nI (c9 + 1))), some (.int (nI 1)), none]) d_M_facts_50 rfl (nI_1 _) ⟨by decide, rfl⟩ rfl ?_
          refine aw_aload_n d_M_facts_53 rfl ?_
          refine aw_get (k := 31) d_M_facts_54 cl_Model k_M_281 (by decide) rfl rfl ?_
          refine aw_if_ne (tgt := 79) d_M_facts_57 (by decide) (fun c57 => ?_) (fun c57 => ?_)
          · refine aw_iconst (v := nI 0) d_M_facts_79 (by decide) ?_
            refine aw_istore_n (L' := [some (.ref 56), some (.int (nI (c9 + 1))), some (.int (nI 0)), none]) d_M_facts_80 ⟨by decide, rfl⟩ rfl ?_
            refine aw_aload_n d_M_facts_81 rfl ?_
            refine aw_dup d_M_facts_82 rfl ?_
            refine aw_get (k := 30) d_M_facts_83 cl_Model k_M_278 (by decide) rfl rfl ?_
            refine aw_iload_n d_M_facts_86 rfl ?_
            refine aw_if_eq (tgt := 94) d_M_facts_87 (by decide) (fun c87 => ?_) (fun c87 => ?_)
            · refine aw_iconst (v := nI 0) d_M_facts_94 (by decide) ?_
              refine aw_iadd d_M_facts_95 ?_
              rw [nI_add, Nat.add_zero]
              refine aw_put (k := 30) (fs' := [.int (nI (N_n (S_N S))), .ref 57, .ref 58, .ref 59, .ref 60, .ref 61, .ref 62, .ref 63, .int (nI (N_ns (S_N S))), .ref 64, .ref 65, .int (nI (N_ra (S_N S))), .int (nI (N_se (S_N S))), .int (N_me (S_N S)), .int (N_mi (S_N S)), .ref 66, .ref 67, .int tab, .ref 68, .ref 69, .ref 70, .ref 71, .ref 72, .ref 73, .ref 74, .int (nI ve), .int la, .ref 75, .ref 76, .int (nI (S_tl S)), .int (nI ((cls (N_n (S_N S)) (N_mk (S_N S)) (fun k => cl (S_ts S k)) (S_tl S) a d).2.1)), .int (nI 1), .ref 77, .ref 78, .int (nI (N_fe (S_N S))), .ref 79, .ref 80, .ref 81, .ref 82, .ref 83, .ref 84, .int (ab_bl (S_K S).isSome), .ref 85, .ref 86, .ref 87, .ref 88]) d_M_facts_96 cl_Model k_M_278 (by decide) rfl ⟨rfl, rfl⟩ rfl (Nat.le_of_ble_eq_true rfl) rfl ?_
              rw [h56]
              refine aw_goto (tgt := 42) d_M_facts_99 (by decide) ?_
              refine aw_iload_n d_M_facts_42 rfl ?_
              refine aw_if_eq (tgt := 102) d_M_facts_43 (by decide) (fun c43 => ?_) (fun c43 => ?_)
              · have e9 : (rcl (N_n (S_N S)) (N_mk (S_N S)) (fun k => cl (S_ts S k)) (S_tl S) (r + 1) (c9 + 1) a d) = (false, c9 + 1, (cls (N_n (S_N S)) (N_mk (S_N S)) (fun k => cl (S_ts S k)) (S_tl S) a d).2.1, (cls (N_n (S_N S)) (N_mk (S_N S)) (fun k => cl (S_ts S k)) (S_tl S) a d).2.2) := by
                  rw [rcl]
                  rw [if_pos k1]
                exact exw _ _ gr2 _ hcl (eF.trans e9)
              · first | exact absurd c43 (by decide) | exact absurd (by decide) c43
            · first | exact absurd c87 (by decide) | exact absurd (by decide) c87
          · first | exact absurd c57 (by decide) | exact absurd (by decide) c57
  have lread : ∀ kf j (gr : Nat → Int32), j + kf = N_n (S_N S) → (∀ k, k < j → gr k = nI (N_ma (S_N S) k)) → ab_W Y_M_facts none l (fun r m2 h2 => ∃ (v : Int32) (S2 : SS), r = some (.int v) ∧ (v, S2) = sp_facts S ∧ PM V (c + 1) h2 S2 ∧ m2 = m ∧ ∀ k, (k < 56 ∨ 88 < k) → h2 k = h k) 2 [some (.ref 56), some (.int (nI (j))), none, none] [] m (ab_set h 77 (.inl (6, gr))) (0, 0) := by
    intro kf
    induction kf with
    | zero =>
      intro j gr hj em
      have hjn : N_n (S_N S) = j := by omega
      subst hjn
      refine aw_iload_n d_M_facts_2 rfl ?_
      refine aw_aload_n d_M_facts_3 rfl ?_
      refine aw_get (k := 0) d_M_facts_4 cl_Model k_M_118 (by decide) m0 rfl ?_
      refine aw_icmp_ge (tgt := 28) d_M_facts_7 (by decide) (fun c7 => ?_) (fun c7 => ?_)
      · refine aw_aload_n d_M_facts_28 rfl ?_
        refine aw_iconst (v := nI 0) d_M_facts_29 (by decide) ?_
        refine aw_put (k := 30) (fs' := [.int (nI (N_n (S_N S))), .ref 57, .ref 58, .ref 59, .ref 60, .ref 61, .ref 62, .ref 63, .int (nI (N_ns (S_N S))), .ref 64, .ref 65, .int (nI (N_ra (S_N S))), .int (nI (N_se (S_N S))), .int (N_me (S_N S)), .int (N_mi (S_N S)), .ref 66, .ref 67, .int tab, .ref 68, .ref 69, .ref 70, .ref 71, .ref 72, .ref 73, .ref 74, .int (nI ve), .int la, .ref 75, .ref 76, .int (nI (S_tl S)), .int (nI 0), .int wr, .ref 77, .ref 78, .int (nI (N_fe (S_N S))), .ref 79, .ref 80, .ref 81, .ref 82, .ref 83, .ref 84, .int (ab_bl (S_K S).isSome), .ref 85, .ref 86, .ref 87, .ref 88]) d_M_facts_30 cl_Model k_M_278 (by decide) rfl ⟨rfl, rfl⟩ m0 (Nat.le_of_ble_eq_true rfl) rfl ?_
        refine aw_aload_n d_M_facts_33 rfl ?_
        refine aw_iconst (v := nI 0) d_M_facts_34 (by decide) ?_
        refine aw_put (k := 31) (fs' := [.int (nI (N_n (S_N S))), .ref 57, .ref 58, .ref 59, .ref 60, .ref 61, .ref 62, .ref 63, .int (nI (N_ns (S_N S))), .ref 64, .ref 65, .int (nI (N_ra (S_N S))), .int (nI (N_se (S_N S))), .int (N_me (S_N S)), .int (N_mi (S_N S)), .ref 66, .ref 67, .int tab, .ref 68, .ref 69, .ref 70, .ref 71, .ref 72, .ref 73, .ref 74, .int (nI ve), .int la, .ref 75, .ref 76, .int (nI (S_tl S)), .int (nI 0), .int (nI 0), .ref 77, .ref 78, .int (nI (N_fe (S_N S))), .ref 79, .ref 80, .ref 81, .ref 82, .ref 83, .ref 84, .int (ab_bl (S_K S).isSome), .ref 85, .ref 86, .ref 87, .ref 88]) d_M_facts_35 cl_Model k_M_281 (by decide) rfl ⟨by decide, by decide⟩ rfl (Nat.le_of_ble_eq_true rfl) rfl ?_
        refine aw_iconst (v := nI 0) d_M_facts_38 (by decide) ?_
        refine aw_istore_n (L' := [some (.ref 56), some (.int (nI 0)), none, none]) d_M_facts_39 ⟨by decide, rfl⟩ rfl ?_
        refine aw_iconst (v := nI 1) d_M_facts_40 (by decide) ?_
        refine aw_istore_n (L' := [some (.ref 56), some (.int (nI 0)), some (.int (nI 1)), none]) d_M_facts_41 ⟨by decide, rfl⟩ rfl ?_
        rw [show ∀ (H : ab_H) (e1 e2 e3 : ab_E), ab_set (ab_set (ab_set H 77 e1) 56 e2) 56 e3 = ab_set (ab_set H 56 e3) 77 e1 from fun H e1 e2 e3 => by rw [ab_set_set, ab_set_swap (a := 77) (b := 56) (by decide)]]
        exact loop 11 0 0 (N_ma (S_N S)) gr (by omega) (Nat.zero_le _) rfl em (fun k hk => ok.1.2.2.2.2.2.2.2.1 k hk)
      · exact absurd (Int32.le_refl _) c7
    | succ kf ih =>
      intro j gr hj em
      refine aw_iload_n d_M_facts_2 rfl ?_
      refine aw_aload_n d_M_facts_3 rfl ?_
      refine aw_get (k := 0) d_M_facts_4 cl_Model k_M_118 (by decide) m0 rfl ?_
      refine aw_icmp_ge (tgt := 28) d_M_facts_7 (by decide) (fun c7 => ?_) (fun c7 => ?_)
      · exact absurd c7 (nI_ge (by omega) (by omega))
      · refine aw_aload_n d_M_facts_10 rfl ?_
        refine aw_get (k := 32) d_M_facts_11 cl_Model k_M_82 (by decide) m0 rfl ?_
        refine aw_iload_n d_M_facts_14 rfl ?_
        refine aw_aload_n d_M_facts_15 rfl ?_
        refine aw_get (k := 7) d_M_facts_16 cl_Model k_M_28 (by decide) m0 rfl ?_
        refine aw_iload_n d_M_facts_19 rfl ?_
        refine aw_ialoadN d_M_facts_20 ha0 (by omega) (by decide) ?_
        refine aw_iastoreN d_M_facts_21 rfl (by omega) (by decide) ?_
        refine aw_iinc (v := nI ((j) + 1)) (L' := [some (.ref 56), some (.int (nI ((j) + 1))), none, none]) d_M_facts_22 rfl (nI_1 _) ⟨by decide, rfl⟩ rfl ?_
        refine aw_goto (tgt := 2) d_M_facts_25 (by decide) ?_
        rw [ab_set_set, aa j (by omega)]
        exact ih (j + 1) _ (by omega) (fun k hk => by
          by_cases e : k = j
          · subst e; exact pk_us
          · rw [pk_un e]; exact em k (by omega))
  refine aw_iconst (v := nI 0) d_M_facts_0 (by decide) ?_
  refine aw_istore_n (L' := [some (.ref 56), some (.int (nI 0)), none, none]) d_M_facts_1 ⟨by decide, rfl⟩ rfl ?_
  exact aw_heap (ab_set_eq hr0) (lread (N_n (S_N S)) 0 gr0 (by omega) (fun k hk => absurd hk (Nat.not_lt_zero _)))
