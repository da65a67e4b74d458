theorem c_takes {V : VV} {m c : Nat} {h : ab_H} {S : SS} (hM : PM V c h S) (ok : S_ok S) (sh lane i : Int32) : ab_C Y_M_takes [.ref 56, .int sh, .int lane, .int i] m h (fun r m2 h2 => r = some (.int (sp_take S sh lane i)) ∧ m2 = m ∧ ∃ g : Nat → Int32, h2 = ab_set h 66 (.inl (6, g)) ∧ (sp_take S sh lane i = 0 → ∀ k, k < N_n (S_N S) → g k = nI (tkf S sh i k))) := by
  obtain ⟨⟨tab, la, at_, wr, ve, fs, ft, m0, m1, m2, m3, m4, m5, m6⟩, ⟨n0, n1, n2, n3, n4, n5, n6, n7, n8, n9⟩, q1, q2, q3, q4⟩ := id hM
  have hn6 : N_n (S_N S) ≤ 6 := ok.1.1
  have hnT := nI_toInt (show N_n (S_N S) < 2 ^ 31 by omega)
  obtain ⟨⟨gl, hl, al⟩, ⟨gz, hz, az⟩, ⟨gi, hi, ai⟩, ⟨gv, hv⟩⟩ := id q2
  obtain ⟨gt, ht⟩ := q3.1
  refine ab_C.of (L := [some (.ref 56), some (.int sh), some (.int lane), some (.int i), none, none, none]) rfl rfl (Nat.le_of_ble_eq_true rfl) (fun l => ?_)
  refine aw_iload_n d_M_takes_0 rfl ?_
  refine aw_s0i d_M_takes_1 k_M_156 ok_M_isSheet rfl ⟨rfl, rfl⟩ (c_M_isSheet sh) rfl rfl (Nat.le_of_ble_eq_true rfl) ?_
  refine aw_if_eq (tgt := 14) d_M_takes_4 (by decide) (fun c4 => ?_) (fun c4 => ?_)
  · refine aw_iconst (v := (-1)) d_M_takes_14 (by decide) ?_
    refine aw_ireturn d_M_takes_15 rfl rfl ?_
    have t2 : sp_take S sh lane i = -1 := by
      have f2 : sp_fault S sh lane i (N_n (S_N S)) = -1 := by
        unfold sp_fault
        rw [if_neg]
        intro q
        first
          | exact of_decide_eq_false (ab_bl_0.mp c4) q.1
          | exact of_decide_eq_false (ab_bl_0.mp c11) q.2
      unfold sp_take
      rw [f2, if_pos (by decide)]
    rw [t2]
    exact ⟨rfl, rfl, gt, (ab_set_eq ht).symm, fun z => absurd z (by decide)⟩
  · refine aw_iload_n d_M_takes_7 rfl ?_
    refine aw_s0i d_M_takes_8 k_M_159 ok_M_isLane rfl ⟨rfl, rfl⟩ (c_M_isLane lane) rfl rfl (Nat.le_of_ble_eq_true rfl) ?_
    refine aw_if_ne (tgt := 16) d_M_takes_11 (by decide) (fun c11 => ?_) (fun c11 => ?_)
    · have k4 := of_decide_eq_true (ab_bl_1.mp c4)
      have k11 := of_decide_eq_true (ab_bl_1.mp c11)
      obtain ⟨s, hs, rfl⟩ := irC (n := 3) k4
      refine aw_aload_n d_M_takes_16 rfl ?_
      refine aw_iload_n d_M_takes_17 rfl ?_
      refine aw_iload_n d_M_takes_18 rfl ?_
      refine aw_iload_n d_M_takes_19 rfl ?_
      refine aw_aload_n d_M_takes_20 rfl ?_
      refine aw_get (k := 0) d_M_takes_21 cl_Model k_M_118 (by decide) m0 rfl ?_
      refine aw_v0i (a := 56) d_M_takes_24 k_M_162 ok_M_finds rfl ⟨rfl, rfl⟩ cl_Model m0 (c_M_finds ok m0 hl al hz az s (by omega) lane i (nI (N_n (S_N S)))) rfl rfl (Nat.le_of_ble_eq_true rfl) ?_
      rw [hnT, show sp_finds S s lane i ((N_n (S_N S) : Nat) : Int) = sp_fault S (nI s) lane i (N_n (S_N S)) from (sp_ff (by omega) k11 _).symm]
      refine aw_topi (fun v27 ev27 => ?_)
      refine aw_istore (L' := [some (.ref 56), some (.int (nI s)), some (.int lane), some (.int i), some (.int v27), none, none]) d_M_takes_27 ⟨by decide, rfl⟩ rfl ?_
      refine aw_iconst (v := nI 0) d_M_takes_29 (by decide) ?_
      refine aw_istore (L' := [some (.ref 56), some (.int (nI s)), some (.int lane), some (.int i), some (.int v27), some (.int (nI 0)), none]) d_M_takes_30 ⟨by decide, rfl⟩ rfl ?_
      refine aw_iconst (v := nI 0) d_M_takes_32 (by decide) ?_
      refine aw_istore (L' := [some (.ref 56), some (.int (nI s)), some (.int lane), some (.int i), some (.int v27), some (.int (nI 0)), some (.int (nI 0))]) d_M_takes_33 ⟨by decide, rfl⟩ rfl ?_
      by_cases hlt : v27 < 0
      · have t2 : sp_take S (nI s) lane i = v27 := by
          unfold sp_take
          rw [← ev27, if_pos hlt]
        have hne : ¬ v27 = 0 := fun z => absurd hlt (by rw [z]; decide)
        have hres : (fun (r : Option Value) (m2 : Nat) (h2 : ab_H) => r = some (.int (sp_take S (nI s) lane i)) ∧ m2 = m ∧ ∃ g : Nat → Int32, h2 = ab_set h 66 (.inl (6, g)) ∧ (sp_take S (nI s) lane i = 0 → ∀ k, k < N_n (S_N S) → g k = nI (tkf S (nI s) i k))) (some (.int v27)) m h := by
          refine ⟨by rw [t2], rfl, gt, (ab_set_eq ht).symm, fun z => absurd (t2.symm.trans z) hne⟩
        refine aw_iload d_M_takes_35 rfl ?_
        refine aw_aload_n d_M_takes_37 rfl ?_
        refine aw_get (k := 0) d_M_takes_38 cl_Model k_M_118 (by decide) m0 rfl ?_
        refine aw_icmp_ge (tgt := 136) d_M_takes_41 (by decide) (fun c41 => ?_) (fun c41 => ?_)
        · refine aw_iload d_M_takes_136 rfl ?_
          refine aw_ireturn d_M_takes_138 rfl rfl ?_
          exact hres
        · refine aw_iload d_M_takes_44 rfl ?_
          refine aw_if_ne (tgt := 136) d_M_takes_46 (by decide) (fun c46 => ?_) (fun c46 => ?_)
          · refine aw_iload d_M_takes_136 rfl ?_
            refine aw_ireturn d_M_takes_138 rfl rfl ?_
            exact hres
          · exact absurd c46 hne
      obtain ⟨s9, j, hs9, e9, rfl, hj, hj2, hf0, hla, hlr⟩ := sp_fault_ok (sh := nI s) (lane := lane) (i := i) (n := N_n (S_N S)) ok (by omega) (fun q => hlt (by rw [ev27]; exact q))
      have e68 : ∀ q, q < N_n (S_N S) → gi (24 * s + j + q) = tki S (nI s) (nI j) q := by
        intro q hq
        rw [Nat.add_assoc, ai s (j + q) (by omega) (by omega)]
        unfold tki
        rw [cl_nI (by omega), cl_nI (by omega)]
      rw [ev27, hf0]
      have bad : ∀ (q : Nat) (met : Int32) (g : Nat → Int32), ¬ tkg S (nI s) (nI j) = true → ab_W Y_M_takes none l (fun r m2 h2 => r = some (.int (sp_take S (nI s) lane (nI j))) ∧ m2 = m ∧ ∃ g : Nat → Int32, h2 = ab_set h 66 (.inl (6, g)) ∧ (sp_take S (nI s) lane (nI j) = 0 → ∀ k, k < N_n (S_N S) → g k = nI (tkf S (nI s) (nI j) k))) 35 [some (.ref 56), some (.int (nI s)), some (.int lane), some (.int (nI j)), some (.int (-2)), some (.int met), some (.int (nI q))] [] m (ab_set h 66 (.inl (6, g))) (0, 0) := by
        intro q met g t1
        have t2 : sp_take S (nI s) lane (nI j) = -2 := by
          unfold sp_take
          rw [hf0, if_neg (by decide), if_neg t1]
        refine aw_iload d_M_takes_35 rfl ?_
        refine aw_aload_n d_M_takes_37 rfl ?_
        refine aw_get (k := 0) d_M_takes_38 cl_Model k_M_118 (by decide) m0 rfl ?_
        refine aw_icmp_ge (tgt := 136) d_M_takes_41 (by decide) (fun c41 => ?_) (fun c41 => ?_)
        · refine aw_iload d_M_takes_136 rfl ?_
          refine aw_ireturn d_M_takes_138 rfl rfl ?_
          rw [t2]
          exact ⟨rfl, rfl, g, rfl, fun z => absurd z (by decide)⟩
        · refine aw_iload d_M_takes_44 rfl ?_
          refine aw_if_ne (tgt := 136) d_M_takes_46 (by decide) (fun c46 => ?_) (fun c46 => ?_)
          · refine aw_iload d_M_takes_136 rfl ?_
            refine aw_ireturn d_M_takes_138 rfl rfl ?_
            rw [t2]
            exact ⟨rfl, rfl, g, rfl, fun z => absurd z (by decide)⟩
          · first | exact absurd c46 (by decide) | exact absurd (by decide) c46
      have loop : ∀ k q (g : Nat → Int32), q + k = N_n (S_N S) → (∀ k, k < q → ir (tki S (nI s) (nI j) k) 0 (N_n (S_N S) - 1 : Int)) → (∀ a b, a < b → b < q → (tkf S (nI s) (nI j)) a ≠ (tkf S (nI s) (nI j)) b) → (∀ k, k < q → g k = tki S (nI s) (nI j) k) → ab_W Y_M_takes none l (fun r m2 h2 => r = some (.int (sp_take S (nI s) lane (nI j))) ∧ m2 = m ∧ ∃ g : Nat → Int32, h2 = ab_set h 66 (.inl (6, g)) ∧ (sp_take S (nI s) lane (nI j) = 0 → ∀ k, k < N_n (S_N S) → g k = nI (tkf S (nI s) (nI j) k))) 35 [some (.ref 56), some (.int (nI s)), some (.int lane), some (.int (nI j)), some (.int (nI 0)), some (.int (nI (sn (tkf S (nI s) (nI j)) (q)))), some (.int (nI (q)))] [] m (ab_set h 66 (.inl (6, g))) (0, 0) := by
        intro k
        induction k with
        | zero =>
          intro q g hq e0 e1 e2
          have hqn : N_n (S_N S) = q := by omega
          subst hqn
          refine aw_iload d_M_takes_35 rfl ?_
          refine aw_aload_n d_M_takes_37 rfl ?_
          refine aw_get (k := 0) d_M_takes_38 cl_Model k_M_118 (by decide) m0 rfl ?_
          refine aw_icmp_ge (tgt := 136) d_M_takes_41 (by decide) (fun c41 => ?_) (fun c41 => ?_)
          · refine aw_iload d_M_takes_136 rfl ?_
            refine aw_ireturn d_M_takes_138 rfl rfl ?_
            have t1 : tkg S (nI s) (nI j) = true := (tkg_ne hn6 e0).mpr e1
            have t2 : sp_take S (nI s) lane (nI j) = 0 := by
              unfold sp_take
              rw [hf0, if_neg (by decide), if_pos t1]
            rw [t2]
            exact ⟨rfl, rfl, g, rfl, fun _ k hk => (e2 k hk).trans (tkf_in hk (e0 k hk)).1⟩
          · exact absurd (Int32.le_refl _) c41
        | succ k ih =>
          intro q g hq e0 e1 e2
          refine aw_iload d_M_takes_35 rfl ?_
          refine aw_aload_n d_M_takes_37 rfl ?_
          refine aw_get (k := 0) d_M_takes_38 cl_Model k_M_118 (by decide) m0 rfl ?_
          refine aw_icmp_ge (tgt := 136) d_M_takes_41 (by decide) (fun c41 => ?_) (fun c41 => ?_)
          · exact absurd c41 (nI_ge (by omega) (by omega))
          · refine aw_iload d_M_takes_44 rfl ?_
            refine aw_if_ne (tgt := 136) d_M_takes_46 (by decide) (fun c46 => ?_) (fun c46 => ?_)
            · first | exact absurd c46 (by decide) | exact absurd (by decide) c46
            · refine aw_aload_n d_M_takes_49 rfl ?_
              refine aw_get (k := 15) d_M_takes_50 cl_Model k_M_44 (by decide) m0 rfl ?_
              refine aw_iload d_M_takes_53 rfl ?_
              refine aw_aload_n d_M_takes_55 rfl ?_
              refine aw_get (k := 44) d_M_takes_56 cl_Model k_M_112 (by decide) m0 rfl ?_
              refine aw_bipush (v := nI 24) d_M_takes_59 (by decide) ?_
              refine aw_iload_n d_M_takes_61 rfl ?_
              refine aw_imul d_M_takes_62 ?_
              refine aw_iload_n d_M_takes_63 rfl ?_
              refine aw_iadd d_M_takes_64 ?_
              refine aw_iload d_M_takes_65 rfl ?_
              refine aw_iadd d_M_takes_67 ?_
              rw [pk_mul, nI_add, nI_add]
              refine aw_ialoadN d_M_takes_68 hi (by omega) (by decide) ?_
              refine aw_iastoreN d_M_takes_69 rfl (by omega) (by decide) ?_
              refine aw_aload_n d_M_takes_70 rfl ?_
              refine aw_aload_n d_M_takes_71 rfl ?_
              refine aw_get (k := 15) d_M_takes_72 cl_Model k_M_44 (by decide) m0 rfl ?_
              refine aw_iload d_M_takes_75 rfl ?_
              refine aw_ialoadN d_M_takes_77 rfl (by omega) (by decide) ?_
              rw [pk_us, e68 q (by omega)]
              refine aw_v0i (a := 56) d_M_takes_78 k_M_140 ok_M_isPerson rfl ⟨rfl, rfl⟩ cl_Model m0 (c_M_isPerson (h := ab_set (ab_set h 66 (.inl (6, g))) 66 (.inl (6, upd g q (tki S (nI s) (nI j) q)))) m0 hn6 (tki S (nI s) (nI j) q)) rfl rfl (Nat.le_of_ble_eq_true rfl) ?_
              refine aw_if_eq (tgt := 103) d_M_takes_81 (by decide) (fun c81 => ?_) (fun c81 => ?_)
              · refine aw_bipush (v := (-2)) d_M_takes_103 (by decide) ?_
                refine aw_istore (L' := [some (.ref 56), some (.int (nI s)), some (.int lane), some (.int (nI j)), some (.int (-2)), some (.int (nI (sn (tkf S (nI s) (nI j)) (q)))), some (.int (nI (q)))]) d_M_takes_105 ⟨by decide, rfl⟩ rfl ?_
                refine aw_iload d_M_takes_107 rfl ?_
                refine aw_iload d_M_takes_109 rfl ?_
                refine aw_if_ne (tgt := 126) d_M_takes_111 (by decide) (fun c111 => ?_) (fun c111 => ?_)
                · refine aw_iconst (v := nI 0) d_M_takes_126 (by decide) ?_
                  refine aw_ior d_M_takes_127 ?_
                  refine aw_topi (fun v128 ev128 => ?_)
                  refine aw_istore (L' := [some (.ref 56), some (.int (nI s)), some (.int lane), some (.int (nI j)), some (.int (-2)), some (.int v128), some (.int (nI (q)))]) d_M_takes_128 ⟨by decide, rfl⟩ rfl ?_
                  refine aw_iinc (v := nI ((q) + 1)) (L' := [some (.ref 56), some (.int (nI s)), some (.int lane), some (.int (nI j)), some (.int (-2)), some (.int v128), some (.int (nI ((q) + 1)))]) d_M_takes_130 rfl (nI_1 _) ⟨by decide, rfl⟩ rfl ?_
                  refine aw_goto (tgt := 35) d_M_takes_133 (by decide) ?_
                  rw [ab_set_set]
                  first
                    | (rw [ev128, pk_us, b_one (by omega), fa_or]
                       refine ih (q + 1) _ (by omega) (fun k hk => ?_) (fun a b hab hb => ?_) (fun k hk => ?_)
                       · by_cases e : k = q
                         · subst e; exact ir2
                         · exact e0 k (by omega)
                       · by_cases e : b = q
                         · subst e
                           exact fun z => b_z.mp c96 ((sn_bit _ _ _).mpr ⟨a, hab, z⟩)
                         · exact e1 a b hab (by omega)
                       · by_cases e : k = q
                         · subst e; rw [pk_us]; exact tk.1.symm
                         · rw [pk_un e]; exact e2 k (by omega))
                    | (refine bad (q + 1) _ _ (fun z => ?_)
                       have z1 := (tkg_iff.mp z q (by omega)).1
                       first
                         | exact absurd z1 (of_decide_eq_false (ab_bl_0.mp c81))
                         | (have b5 := (sn_bit _ _ _).mp (b_nz.mp c96)
                            obtain ⟨r, hr, er⟩ := b5
                            exact (tkg_ne hn6 (fun k hk => (tkg_iff.mp z k hk).1)).mp z r q hr (by omega) er))
                · first | exact absurd c111 (by decide) | exact absurd (by decide) c111
              · refine aw_iload d_M_takes_84 rfl ?_
                refine aw_aload_n d_M_takes_86 rfl ?_
                refine aw_get (k := 15) d_M_takes_87 cl_Model k_M_44 (by decide) m0 rfl ?_
                refine aw_iload d_M_takes_90 rfl ?_
                refine aw_ialoadN d_M_takes_92 rfl (by omega) (by decide) ?_
                refine aw_ishr d_M_takes_93 ?_
                refine aw_iconst (v := nI 1) d_M_takes_94 (by decide) ?_
                refine aw_iand d_M_takes_95 ?_
                have ir2 := of_decide_eq_true (ab_bl_1.mp c81)
                have tk := tkf_in (show q < N_n (S_N S) by omega) ir2
                rw [pk_us, tk.1, b_at (Nat.lt_trans (sn_lt (x := (tkf S (nI s) (nI j))) q (fun k hk => by have := (tkf_in (show k < N_n (S_N S) by omega) (e0 k hk)).2; omega)) (by decide)) (by omega)]
                refine aw_if_ne (tgt := 103) d_M_takes_96 (by decide) (fun c96 => ?_) (fun c96 => ?_)
                · refine aw_bipush (v := (-2)) d_M_takes_103 (by decide) ?_
                  refine aw_istore (L' := [some (.ref 56), some (.int (nI s)), some (.int lane), some (.int (nI j)), some (.int (-2)), some (.int (nI (sn (tkf S (nI s) (nI j)) (q)))), some (.int (nI (q)))]) d_M_takes_105 ⟨by decide, rfl⟩ rfl ?_
                  refine aw_iload d_M_takes_107 rfl ?_
                  refine aw_iload d_M_takes_109 rfl ?_
                  refine aw_if_ne (tgt := 126) d_M_takes_111 (by decide) (fun c111 => ?_) (fun c111 => ?_)
                  · refine aw_iconst (v := nI 0) d_M_takes_126 (by decide) ?_
                    refine aw_ior d_M_takes_127 ?_
                    refine aw_topi (fun v128 ev128 => ?_)
                    refine aw_istore (L' := [some (.ref 56), some (.int (nI s)), some (.int lane), some (.int (nI j)), some (.int (-2)), some (.int v128), some (.int (nI (q)))]) d_M_takes_128 ⟨by decide, rfl⟩ rfl ?_
                    refine aw_iinc (v := nI ((q) + 1)) (L' := [some (.ref 56), some (.int (nI s)), some (.int lane), some (.int (nI j)), some (.int (-2)), some (.int v128), some (.int (nI ((q) + 1)))]) d_M_takes_130 rfl (nI_1 _) ⟨by decide, rfl⟩ rfl ?_
                    refine aw_goto (tgt := 35) d_M_takes_133 (by decide) ?_
                    rw [ab_set_set]
                    first
                      | (rw [ev128, pk_us, b_one (by omega), fa_or]
                         refine ih (q + 1) _ (by omega) (fun k hk => ?_) (fun a b hab hb => ?_) (fun k hk => ?_)
                         · by_cases e : k = q
                           · subst e; exact ir2
                           · exact e0 k (by omega)
                         · by_cases e : b = q
                           · subst e
                             exact fun z => b_z.mp c96 ((sn_bit _ _ _).mpr ⟨a, hab, z⟩)
                           · exact e1 a b hab (by omega)
                         · by_cases e : k = q
                           · subst e; rw [pk_us]; exact tk.1.symm
                           · rw [pk_un e]; exact e2 k (by omega))
                      | (refine bad (q + 1) _ _ (fun z => ?_)
                         have z1 := (tkg_iff.mp z q (by omega)).1
                         first
                           | exact absurd z1 (of_decide_eq_false (ab_bl_0.mp c81))
                           | (have b5 := (sn_bit _ _ _).mp (b_nz.mp c96)
                              obtain ⟨r, hr, er⟩ := b5
                              exact (tkg_ne hn6 (fun k hk => (tkg_iff.mp z k hk).1)).mp z r q hr (by omega) er))
                  · first | exact absurd c111 (by decide) | exact absurd (by decide) c111
                · refine aw_iconst (v := nI 0) d_M_takes_99 (by decide) ?_
                  refine aw_goto (tgt := 105) d_M_takes_100 (by decide) ?_
                  refine aw_istore (L' := [some (.ref 56), some (.int (nI s)), some (.int lane), some (.int (nI j)), some (.int (nI 0)), some (.int (nI (sn (tkf S (nI s) (nI j)) (q)))), some (.int (nI (q)))]) d_M_takes_105 ⟨by decide, rfl⟩ rfl ?_
                  refine aw_iload d_M_takes_107 rfl ?_
                  refine aw_iload d_M_takes_109 rfl ?_
                  refine aw_if_ne (tgt := 126) d_M_takes_111 (by decide) (fun c111 => ?_) (fun c111 => ?_)
                  · first | exact absurd c111 (by decide) | exact absurd (by decide) c111
                  · refine aw_iconst (v := nI 1) d_M_takes_114 (by decide) ?_
                    refine aw_aload_n d_M_takes_115 rfl ?_
                    refine aw_get (k := 15) d_M_takes_116 cl_Model k_M_44 (by decide) m0 rfl ?_
                    refine aw_iload d_M_takes_119 rfl ?_
                    refine aw_ialoadN d_M_takes_121 rfl (by omega) (by decide) ?_
                    refine aw_ishl d_M_takes_122 ?_
                    refine aw_goto (tgt := 127) d_M_takes_123 (by decide) ?_
                    refine aw_ior d_M_takes_127 ?_
                    refine aw_topi (fun v128 ev128 => ?_)
                    refine aw_istore (L' := [some (.ref 56), some (.int (nI s)), some (.int lane), some (.int (nI j)), some (.int (nI 0)), some (.int v128), some (.int (nI (q)))]) d_M_takes_128 ⟨by decide, rfl⟩ rfl ?_
                    refine aw_iinc (v := nI ((q) + 1)) (L' := [some (.ref 56), some (.int (nI s)), some (.int lane), some (.int (nI j)), some (.int (nI 0)), some (.int v128), some (.int (nI ((q) + 1)))]) d_M_takes_130 rfl (nI_1 _) ⟨by decide, rfl⟩ rfl ?_
                    refine aw_goto (tgt := 35) d_M_takes_133 (by decide) ?_
                    rw [ab_set_set]
                    first
                      | (rw [ev128, pk_us, b_one (by omega), fa_or]
                         refine ih (q + 1) _ (by omega) (fun k hk => ?_) (fun a b hab hb => ?_) (fun k hk => ?_)
                         · by_cases e : k = q
                           · subst e; exact ir2
                           · exact e0 k (by omega)
                         · by_cases e : b = q
                           · subst e
                             exact fun z => b_z.mp c96 ((sn_bit _ _ _).mpr ⟨a, hab, z⟩)
                           · exact e1 a b hab (by omega)
                         · by_cases e : k = q
                           · subst e; rw [pk_us]; exact tk.1.symm
                           · rw [pk_un e]; exact e2 k (by omega))
                      | (refine bad (q + 1) _ _ (fun z => ?_)
                         have z1 := (tkg_iff.mp z q (by omega)).1
                         first
                           | exact absurd z1 (of_decide_eq_false (ab_bl_0.mp c81))
                           | (have b5 := (sn_bit _ _ _).mp (b_nz.mp c96)
                              obtain ⟨r, hr, er⟩ := b5
                              exact (tkg_ne hn6 (fun k hk => (tkg_iff.mp z k hk).1)).mp z r q hr (by omega) er))
      exact aw_heap (ab_set_eq ht) (loop (N_n (S_N S)) 0 gt (by omega) (fun k hk => absurd hk (Nat.not_lt_zero _)) (fun a b hab hb => absurd hb (Nat.not_lt_zero _)) (fun k hk => absurd hk (Nat.not_lt_zero _)))
    · refine aw_iconst (v := (-1)) d_M_takes_14 (by decide) ?_
      refine aw_ireturn d_M_takes_15 rfl rfl ?_
      have t2 : sp_take S sh lane i = -1 := by
        have f2 : sp_fault S sh lane i (N_n (S_N S)) = -1 := by
          unfold sp_fault
          rw [if_neg]
          intro q
          first
            | exact of_decide_eq_false (ab_bl_0.mp c4) q.1
            | exact of_decide_eq_false (ab_bl_0.mp c11) q.2
        unfold sp_take
        rw [f2, if_pos (by decide)]
      rw [t2]
      exact ⟨rfl, rfl, gt, (ab_set_eq ht).symm, fun z => absurd z (by decide)⟩
theorem y_table {V : VV} {m c : Nat} {h : ab_H} {S : SS} (hM : PM V c h S) (ok : S_ok S) (hc : c < 900) (hV : V_ok V) (sh lane i : Int32) : CM V Y_M_table [.int sh, .int lane, .int i] m c h (fun r S2 => (r, S2) = sp_table S sh lane i) := by
  obtain ⟨⟨tab, la, at_, wr, ve, fs, ft, m0, m1, m2, m3, m4, m5, m6⟩, ⟨n0, n1, n2, n3, n4, n5, n6, n7, n8, n9⟩, q1, q2, q3, q4⟩ := id hM
  have hn6 : N_n (S_N S) ≤ 6 := ok.1.1
  have hnT := nI_toInt (show N_n (S_N S) < 2 ^ 31 by omega)
  have hpm := ok.1.pm
  have hfx := ok.1.2.2.1
  have hw6 := ok.1.w6
  refine ab_C.of (L := [some (.ref 56), some (.int sh), some (.int lane), some (.int i), none, none]) rfl rfl (Nat.le_of_ble_eq_true rfl) (fun l => ?_)
  obtain ⟨gh, hh, ah⟩ := id n3
  refine aw_aload_n d_M_table_0 rfl ?_
  refine aw_iload_n d_M_table_1 rfl ?_
  refine aw_iload_n d_M_table_2 rfl ?_
  refine aw_iload_n d_M_table_3 rfl ?_
  refine aw_v0 (a := 56) d_M_table_4 k_M_166 ok_M_takes rfl ⟨rfl, rfl⟩ cl_Model m0 (c_takes hM ok sh lane i) rfl rfl (Nat.le_of_ble_eq_true rfl) (fun r m2 h2 q => ?_)
  obtain ⟨rfl, em, g, rfl, hgk⟩ := q
  rw [em]
  show ab_W _ _ _ _ 7 _ [.int (sp_take S sh lane i)] _ _ _
  refine aw_topi (fun v7 ev7 => ?_)
  refine aw_istore (L' := [some (.ref 56), some (.int sh), some (.int lane), some (.int i), some (.int v7), none]) d_M_table_7 ⟨by decide, rfl⟩ rfl ?_
  refine aw_iload d_M_table_9 rfl ?_
  refine aw_if_ge (tgt := 17) d_M_table_11 (by decide) (fun c11 => ?_) (fun c11 => ?_)
  · have t01 := sp_take_0 ok (Int32.not_lt.mpr (by rw [← ev7]; exact c11))
    obtain ⟨t0, tg⟩ := t01
    obtain ⟨tp, tf, ti⟩ := tkg_pm hn6 tg
    refine aw_iconst (v := nI 0) d_M_table_17 (by decide) ?_
    refine aw_istore (L' := [some (.ref 56), some (.int sh), some (.int lane), some (.int i), some (.int v7), some (.int (nI 0))]) d_M_table_18 ⟨by decide, rfl⟩ rfl ?_
    have loop : ∀ k q (g6 : Nat → Int32), q + k = N_n (S_N S) → (∀ k, k < q → g6 k = nI (tkf S sh i k)) → ab_W Y_M_table none l (fun r m2 h2 => ∃ (v : Int32) (S2 : SS), r = some (.int v) ∧ (v, S2) = sp_table S sh lane i ∧ PM V (c + 1) h2 S2 ∧ m2 = m ∧ ∀ k, (k < 56 ∨ 88 < k) → h2 k = h k) 20 [some (.ref 56), some (.int sh), some (.int lane), some (.int i), some (.int v7), some (.int (nI (q)))] [] m (ab_set (ab_set h 66 (.inl (6, g))) 60 (.inl (6, g6))) (0, 0) := by
      intro k
      induction k with
      | zero =>
        intro q g6 hq e0
        have hqn : N_n (S_N S) = q := by omega
        subst hqn
        refine aw_iload d_M_table_20 rfl ?_
        refine aw_aload_n d_M_table_22 rfl ?_
        refine aw_get (k := 0) d_M_table_23 cl_Model k_M_118 (by decide) m0 rfl ?_
        refine aw_icmp_ge (tgt := 49) d_M_table_26 (by decide) (fun c26 => ?_) (fun c26 => ?_)
        · refine aw_aload_n d_M_table_49 rfl ?_
          refine aw_v0i (a := 56) d_M_table_50 k_M_170 ok_M_strangers rfl ⟨rfl, rfl⟩ cl_Model m0 (c_strangers (h := ab_set (ab_set h 66 (.inl (6, g))) 60 (.inl (6, g6))) m0 hn6 tp tf rfl e0) rfl rfl (Nat.le_of_ble_eq_true rfl) ?_
          refine aw_ireturn d_M_table_53 rfl rfl ?_
          refine ⟨_, S_N_ S (N_t_ (S_N S) (tkf S sh i)), rfl, ?_, ⟨⟨tab, la, at_, wr, ve, fs, ft, m0, by omega, by omega, m3, m4, m5, ?_⟩, ⟨n0, n1, n2, ⟨g6, rfl, e0⟩, n4, n5, n6, n7, n8, n9⟩, q1, q2, ⟨⟨g, rfl⟩, q3.2⟩, q4⟩, rfl, (fun k hk => by rw [ab_set_ne (by omega), ab_set_ne (by omega)])⟩
          · unfold sp_table
            rw [t0, if_neg (by decide)]
          · rw [show V.2.2.2.2 (S_N (S_N_ S (N_t_ (S_N S) (tkf S sh i)))) = V.2.2.2.2 (S_N S) from hV.2.2.2.1 (S_N S) (tkf S sh i) (N_me (S_N S)) (N_mi (S_N S))]
            exact m6
        · exact absurd (Int32.le_refl _) c26
      | succ k ih =>
        intro q g6 hq e0
        refine aw_iload d_M_table_20 rfl ?_
        refine aw_aload_n d_M_table_22 rfl ?_
        refine aw_get (k := 0) d_M_table_23 cl_Model k_M_118 (by decide) m0 rfl ?_
        refine aw_icmp_ge (tgt := 49) d_M_table_26 (by decide) (fun c26 => ?_) (fun c26 => ?_)
        · exact absurd c26 (nI_ge (by omega) (by omega))
        · refine aw_aload_n d_M_table_29 rfl ?_
          refine aw_get (k := 4) d_M_table_30 cl_Model k_M_19 (by decide) m0 rfl ?_
          refine aw_iload d_M_table_33 rfl ?_
          refine aw_aload_n d_M_table_35 rfl ?_
          refine aw_get (k := 15) d_M_table_36 cl_Model k_M_44 (by decide) m0 rfl ?_
          refine aw_iload d_M_table_39 rfl ?_
          refine aw_ialoadN d_M_table_41 rfl (by omega) (by decide) ?_
          refine aw_iastoreN d_M_table_42 rfl (by omega) (by decide) ?_
          refine aw_iinc (v := nI ((q) + 1)) (L' := [some (.ref 56), some (.int sh), some (.int lane), some (.int i), some (.int v7), some (.int (nI ((q) + 1)))]) d_M_table_43 rfl (nI_1 _) ⟨by decide, rfl⟩ rfl ?_
          refine aw_goto (tgt := 20) d_M_table_46 (by decide) ?_
          rw [ab_set_set]
          exact ih (q + 1) _ (by omega) (fun k hk => by
            by_cases e : k = q
            · subst e; rw [pk_us]; exact hgk t0 k (by omega)
            · rw [pk_un e]; exact e0 k (by omega))
    exact aw_heap (ab_set_eq (h := ab_set h 66 (.inl (6, g))) (a := 60) hh) (loop (N_n (S_N S)) 0 gh (by omega) (fun k hk => absurd hk (Nat.not_lt_zero _)))
  · refine aw_iload d_M_table_14 rfl ?_
    refine aw_ireturn d_M_table_16 rfl rfl ?_
    refine ⟨_, S, rfl, ?_, ⟨⟨tab, la, at_, wr, ve, fs, ft, m0, by omega, by omega, m3, m4, m5, m6⟩, ⟨n0, n1, n2, n3, n4, n5, n6, n7, n8, n9⟩, q1, q2, ⟨⟨g, rfl⟩, q3.2⟩, q4⟩, rfl, (fun k hk => ab_set_ne (by omega))⟩
    unfold sp_table
    rw [if_pos (by rw [← ev7]; exact Int32.not_le.mp c11), ev7]
