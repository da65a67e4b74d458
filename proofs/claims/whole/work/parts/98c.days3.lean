theorem V1_iff {N : NS} {v : Nat} : V1 (N_n N) (N_w N) (N_t N) (fr N) v ↔ (VM (N_n N) (N_w N) (mx6 0) ∧ ∃ o, o < 76 ∧ VM (N_n N) (N_w N) (mx6 o) ∧ ow (fun k => N_t N (mx6 0 (mx6 o k))) (bn N) = true ∧ v = mls (fr N) (N_n N) (mx6 0) + mls (fr N) (N_n N) (mx6 o)) := by
  rw [mx6_0, mls_id]
  constructor
  · intro ⟨a, h1, h2, h3⟩
    obtain ⟨k, hk, ek⟩ := mx6_has ⟨h1.1.1, h1.2.1⟩
    refine ⟨VM.id _ _, k, hk, by rw [ek]; exact h1, by rw [ek]; exact h2, by rw [ek, Nat.zero_add]; exact h3⟩
  · intro ⟨_, k, hk, h1, h2, h3⟩
    exact ⟨mx6 k, h1, h2, by rw [Nat.zero_add] at h3; exact h3⟩
theorem V2_iff {N : NS} (hno : ∀ v, ¬ V1 (N_n N) (N_w N) (N_t N) (fr N) v) {v : Nat} : V2 (N_n N) (N_w N) (N_t N) (fr N) v ↔ ∃ f, (1 ≤ f ∧ f < 76) ∧ VM (N_n N) (N_w N) (mx6 f) ∧ ∃ o, o < 76 ∧ VM (N_n N) (N_w N) (mx6 o) ∧ ow (fun k => N_t N (mx6 f (mx6 o k))) (bn N) = true ∧ v = mls (fr N) (N_n N) (mx6 f) + mls (fr N) (N_n N) (mx6 o) := by
  constructor
  · intro ⟨a, b, h1, h2, h3, h4⟩
    obtain ⟨f, hf, ef⟩ := mx6_has ⟨h1.1.1, h1.2.1⟩
    obtain ⟨o, ho, eo⟩ := mx6_has ⟨h2.1.1, h2.2.1⟩
    refine ⟨f, ⟨Nat.pos_of_ne_zero (fun z => ?_), hf⟩, by rw [ef]; exact h1, o, ho, by rw [eo]; exact h2, by rw [ef, eo]; exact h3, by rw [ef, eo]; exact h4⟩
    rw [z, mx6_0] at ef
    rw [← ef] at h3
    exact hno _ ⟨b, h2, h3, rfl⟩
  · intro ⟨f, _, h1, o, _, h2, h3, h4⟩
    exact ⟨mx6 f, mx6 o, h1, h2, h3, h4⟩
theorem V2_ne {N : NS} (ok : N_ok N) : ∃ v, V2 (N_n N) (N_w N) (N_t N) (fr N) v := by
  obtain ⟨a, b, ha, hb, e⟩ := two_days (w := N_w N) ok.1 ⟨ok.pm, ok.2.2.1⟩
  exact ⟨_, a, b, ha, hb, e, rfl⟩
theorem PX.dy {V : VV} {m : Nat} {h h2 : ab_H} {S : SS} (hX : PX V m h S) (q : ∀ k, k < 47 ∨ 49 < k → h2 k = h k) (r : PXd V h2 (S_N S)) : PX V m h2 S := by
  obtain ⟨p0, p1, p2, p3, p4, p5, p6, p7⟩ := hX
  exact ⟨p0.fr (fun k _ _ => q k (by omega)), p1.fr (fun k _ _ => q k (by omega)), p2.fr (fun k _ _ => q k (by omega)), p3.fr (fun k _ _ => q k (by omega)), p4.fr (fun k _ _ => q k (by omega)), r, p6.fr (fun k _ _ => q k (by omega)), p7.fr (fun k _ => q k (by omega))⟩
abbrev HY (h : ab_H) (g9 : Nat → Int32) (e : ab_E) : ab_H := ab_set (ab_set h 49 (.inl (76, g9))) 47 e
theorem hy_47 (h : ab_H) (g9 : Nat → Int32) (e e2 : ab_E) : ab_set (HY h g9 e) 47 e2 = HY h g9 e2 := ab_set_set _ _ _ _
def DVN (N : NS) (da mi : Int32) : Prop := DV (N_n N) (N_w N) (N_t N) (fr N) da mi
theorem c_Days_reckon {m : Nat} {h : ab_H} {N : NS} (hX : NX h 2 N) (ok : N_ok N) {kn : Bool} {da mi : Int32} (h47 : h 47 = oD kn da mi) {g8 g9 : Nat → Int32} (h48 : h 48 = .inl (76, g8)) (h49 : h 49 = .inl (76, g9)) (e8 : ∀ k, k < 76 → g8 k = nI (pk (mx6 k))) : ab_C Y_Days_reckon [.ref 47, .ref 2] m h (fun r m2 h2 => r = none ∧ m2 = m ∧ ∃ (da mi : Int32) (g9 : Nat → Int32), h2 = HY h g9 (oD true da mi) ∧ DVN N da mi) := by
  obtain ⟨n0, ⟨gx, hx, ax⟩, ⟨gy, hy, ay⟩, ⟨gm, hm, am⟩, ⟨gl, hl, al⟩, ⟨ga, ha, aa⟩, ⟨gi, hi, ai⟩, ⟨gj, hj0, aj⟩, ⟨gf, hf0, af⟩⟩ := id hX
  have hn6 : N_n N ≤ 6 := ok.1
  have hns : N_ns N ≤ 4 := ok.2.2.2.2.2.2.2.2.1
  have hpm := ok.pm
  have hw6 := ok.w6
  have hfx := ok.2.2.1
  have bx := ok.2.2.2.2.2.1
  have bi := ok.2.2.2.2.2.2.2.2.2.1
  refine ab_C.of (L := [some (.ref 47), some (.ref 2), none, none, none]) rfl rfl (Nat.le_of_ble_eq_true rfl) (fun l => ?_)
  have mid : ∀ (g9 : Nat → Int32), PMo N g9 → ab_W Y_Days_reckon none l (fun r m2 h2 => r = none ∧ m2 = m ∧ ∃ (da mi : Int32) (g9 : Nat → Int32), h2 = HY h g9 (oD true da mi) ∧ DVN N da mi) 70 [some (.ref 47), some (.ref 2), some (.int (nI (wil N))), some (.int (nI 76)), none] [] m (HY h g9 (oD kn da mi)) (0, 0) := by
    intro g9 e9
    refine aw_aload_n d_Days_reckon_70 rfl ?_
    refine aw_v0i (a := 2) d_Days_reckon_71 k_Days_50 ok_Night_bound rfl ⟨rfl, rfl⟩ cl_Night n0 (c_bound n0 hn6 hpm hw6) rfl rfl (Nat.le_of_ble_eq_true rfl) ?_
    refine aw_istore_n (L' := [some (.ref 47), some (.ref 2), some (.int (nI (wil N))), some (.int (nI (bn N))), none]) d_Days_reckon_74 ⟨by decide, rfl⟩ rfl ?_
    refine aw_aload_n d_Days_reckon_75 rfl ?_
    refine aw_iconst (v := nI 0) d_Days_reckon_76 (by decide) ?_
    refine aw_put (k := 1) (fs' := [.int (ab_bl kn), .int (nI 0), .int mi, .ref 48, .ref 49]) d_Days_reckon_77 cl_Days k_Days_53 (by decide) rfl ⟨rfl, rfl⟩ rfl (Nat.le_of_ble_eq_true rfl) rfl ?_
    rw [hy_47]
    refine aw_aload_n d_Days_reckon_80 rfl ?_
    refine aw_aload_n d_Days_reckon_81 rfl ?_
    refine aw_get (k := 6) d_Days_reckon_82 cl_Night k_Days_56 (by decide) n0 rfl ?_
    refine aw_iload_n d_Days_reckon_85 rfl ?_
    refine aw_s0i d_Days_reckon_86 k_Days_43 ok_Rows_areOwn rfl ⟨rfl, rfl⟩ (c_areOwn hpm (Nat.lt_trans (bnd_lt _ _ _ hn6) (by decide))) rfl rfl (Nat.le_of_ble_eq_true rfl) ?_
    refine aw_if_eq (tgt := 96) d_Days_reckon_89 (by decide) (fun c89 => ?_) (fun c89 => ?_)
    · refine aw_ldc (v := nI 2147483647) d_Days_reckon_96 k_Days_59 ?_
      refine aw_put (k := 2) (fs' := [.int (ab_bl kn), .int (nI 0), .int (nI 2147483647), .ref 48, .ref 49]) d_Days_reckon_98 cl_Days k_Days_60 (by decide) rfl ⟨rfl, rfl⟩ rfl (Nat.le_of_ble_eq_true rfl) rfl ?_
      rw [hy_47]
      refine aw_aload_n d_Days_reckon_101 rfl ?_
      refine aw_get (k := 2) d_Days_reckon_102 cl_Days k_Days_60 (by decide) rfl rfl ?_
      refine aw_ldc (v := nI 2147483647) d_Days_reckon_105 k_Days_59 ?_
      refine aw_icmp_ne (tgt := 125) d_Days_reckon_107 (by decide) (fun c107 => ?_) (fun c107 => ?_)
      · first | exact absurd c107 (by decide) | exact absurd (by decide) c107
      · refine aw_aload_n d_Days_reckon_110 rfl ?_
        refine aw_iconst (v := nI 1) d_Days_reckon_111 (by decide) ?_
        refine aw_put (k := 1) (fs' := [.int (ab_bl kn), .int (nI 1), .int (nI 2147483647), .ref 48, .ref 49]) d_Days_reckon_112 cl_Days k_Days_53 (by decide) rfl ⟨rfl, rfl⟩ rfl (Nat.le_of_ble_eq_true rfl) rfl ?_
        rw [hy_47]
        have nw : ow (N_t N) (bn N) = false := ab_bl_0.mp c89
        have cu : cur 2147483647 (fun _ => False) (nI 2147483647) := Or.inl ⟨fun _ z => z, rfl⟩
        refine aw_aload_n d_Days_reckon_115 rfl ?_
        refine aw_aload_n d_Days_reckon_116 rfl ?_
        refine aw_get (k := 6) d_Days_reckon_117 cl_Night k_Days_56 (by decide) n0 rfl ?_
        refine aw_iload_n d_Days_reckon_120 rfl ?_
        refine aw_iconst (v := nI 0) d_Days_reckon_121 (by decide) ?_
        refine aw_v0 (a := 47) d_Days_reckon_122 k_Days_63 ok_Days_lessen rfl ⟨rfl, rfl⟩ cl_Days rfl (c_lessen (h := HY h g9 (oD kn (nI 1) (nI 2147483647))) ok rfl (g8 := g8) h48 (g9 := g9) rfl e8 e9 (f := 0) (by omega) (P := (fun _ => False)) cu) rfl rfl (Nat.le_of_ble_eq_true rfl) (fun r m2 h2 z => ?_)
        obtain ⟨rfl, em, mi2, rfl, cu2⟩ := z
        rw [em, hy_47]
        show ab_W _ _ _ _ 125 _ [] _ _ _
        refine aw_aload_n d_Days_reckon_125 rfl ?_
        refine aw_get (k := 2) d_Days_reckon_126 cl_Days k_Days_60 (by decide) rfl rfl ?_
        refine aw_ldc (v := nI 2147483647) d_Days_reckon_129 k_Days_59 ?_
        refine aw_icmp_ne (tgt := 166) d_Days_reckon_131 (by decide) (fun c131 => ?_) (fun c131 => ?_)
        · refine aw_aload_n d_Days_reckon_166 rfl ?_
          refine aw_iconst (v := nI 1) d_Days_reckon_167 (by decide) ?_
          refine aw_put (k := 0) (fs' := [.int (nI 1), .int (nI 1), .int mi2, .ref 48, .ref 49]) d_Days_reckon_168 cl_Days k_Days_67 (by decide) rfl ⟨rfl, rfl⟩ rfl (Nat.le_of_ble_eq_true rfl) rfl ?_
          refine aw_return d_Days_reckon_171 rfl ?_
          rw [hy_47]
          first
            | exact ⟨rfl, rfl, _, _, g9, rfl, Or.inl ⟨ab_bl_1.mp c89, rfl, rfl⟩⟩
            | (refine ⟨rfl, rfl, _, _, g9, rfl, Or.inr (Or.inl ⟨nw, ?_⟩)⟩
               have cu2 := cu2.iff (P2 := V1 (N_n N) (N_w N) (N_t N) (fr N)) (fun v => ⟨fun z => Or.inr (V1_iff.mp z), fun z => z.elim False.elim (fun y => V1_iff.mpr y)⟩)
               rcases cu2 with ⟨_, z⟩ | ⟨v, z1, z2, _⟩
               · exact absurd z c131
               · exact ⟨v, z1, rfl, z2⟩)
        · refine aw_aload_n d_Days_reckon_134 rfl ?_
          refine aw_iconst (v := nI 2) d_Days_reckon_135 (by decide) ?_
          refine aw_put (k := 1) (fs' := [.int (ab_bl kn), .int (nI 2), .int mi2, .ref 48, .ref 49]) d_Days_reckon_136 cl_Days k_Days_53 (by decide) rfl ⟨rfl, rfl⟩ rfl (Nat.le_of_ble_eq_true rfl) rfl ?_
          rw [hy_47]
          refine aw_iconst (v := nI 1) d_Days_reckon_139 (by decide) ?_
          refine aw_istore (L' := [some (.ref 47), some (.ref 2), some (.int (nI (wil N))), some (.int (nI (bn N))), some (.int (nI 1))]) d_Days_reckon_140 ⟨by decide, rfl⟩ rfl ?_
          have cu2 := cu2.iff (P2 := V1 (N_n N) (N_w N) (N_t N) (fr N)) (fun v => ⟨fun z => Or.inr (V1_iff.mp z), fun z => z.elim False.elim (fun y => V1_iff.mpr y)⟩)
          have hno : ∀ v, ¬ V1 (N_n N) (N_w N) (N_t N) (fr N) v := by
            rcases cu2 with ⟨z, _⟩ | ⟨v, z1, z2, z3⟩
            · exact z
            · rw [z2] at c131
              have := (nI_eq (by omega) (by decide)).mp c131
              omega
          have loop2 : ∀ kf j (mi : Int32), j + kf = 76 → 1 ≤ j → cur 2147483647 (fun v => ∃ f, (1 ≤ f ∧ f < j) ∧ VM (N_n N) (N_w N) (mx6 f) ∧ ∃ o, o < 76 ∧ VM (N_n N) (N_w N) (mx6 o) ∧ ow (fun k => N_t N (mx6 f (mx6 o k))) (bn N) = true ∧ v = mls (fr N) (N_n N) (mx6 f) + mls (fr N) (N_n N) (mx6 o)) mi → ab_W Y_Days_reckon none l (fun r m2 h2 => r = none ∧ m2 = m ∧ ∃ (da mi : Int32) (g9 : Nat → Int32), h2 = HY h g9 (oD true da mi) ∧ DVN N da mi) 142 [some (.ref 47), some (.ref 2), some (.int (nI (wil N))), some (.int (nI (bn N))), some (.int (nI (j)))] [] m (HY h g9 (oD kn (nI 2) mi)) (0, 0) := by
            intro kf
            induction kf with
            | zero =>
              intro j mi hj hj1 cu
              have hjn : 76 = j := by omega
              subst hjn
              refine aw_iload d_Days_reckon_142 rfl ?_
              refine aw_bipush (v := nI 76) d_Days_reckon_144 (by decide) ?_
              refine aw_icmp_ge (tgt := 166) d_Days_reckon_146 (by decide) (fun c146 => ?_) (fun c146 => ?_)
              · refine aw_aload_n d_Days_reckon_166 rfl ?_
                refine aw_iconst (v := nI 1) d_Days_reckon_167 (by decide) ?_
                refine aw_put (k := 0) (fs' := [.int (nI 1), .int (nI 2), .int mi, .ref 48, .ref 49]) d_Days_reckon_168 cl_Days k_Days_67 (by decide) rfl ⟨rfl, rfl⟩ rfl (Nat.le_of_ble_eq_true rfl) rfl ?_
                refine aw_return d_Days_reckon_171 rfl ?_
                rw [hy_47]
                refine ⟨rfl, rfl, nI 2, mi, g9, rfl, Or.inr (Or.inr ⟨nw, hno, ?_⟩)⟩
                have cu := cu.iff (P2 := V2 (N_n N) (N_w N) (N_t N) (fr N)) (fun v => V2_iff hno)
                rcases cu with ⟨z, _⟩ | ⟨v, z1, z2, _⟩
                · obtain ⟨v, hv⟩ := V2_ne ok
                  exact absurd hv (z v)
                · exact ⟨v, z1, rfl, z2⟩
              · exact absurd (Int32.le_refl _) c146
            | succ kf ih =>
              intro j mi hj hj1 cu
              refine aw_iload d_Days_reckon_142 rfl ?_
              refine aw_bipush (v := nI 76) d_Days_reckon_144 (by decide) ?_
              refine aw_icmp_ge (tgt := 166) d_Days_reckon_146 (by decide) (fun c146 => ?_) (fun c146 => ?_)
              · exact absurd c146 (nI_ge (by omega) (by omega))
              · refine aw_aload_n d_Days_reckon_149 rfl ?_
                refine aw_aload_n d_Days_reckon_150 rfl ?_
                refine aw_get (k := 6) d_Days_reckon_151 cl_Night k_Days_56 (by decide) n0 rfl ?_
                refine aw_iload_n d_Days_reckon_154 rfl ?_
                refine aw_iload d_Days_reckon_155 rfl ?_
                refine aw_v0 (a := 47) d_Days_reckon_157 k_Days_63 ok_Days_lessen rfl ⟨rfl, rfl⟩ cl_Days rfl (c_lessen (h := HY h g9 (oD kn (nI 2) (mi))) ok rfl (g8 := g8) h48 (g9 := g9) rfl e8 e9 (f := j) (by omega) cu) rfl rfl (Nat.le_of_ble_eq_true rfl) (fun r m2 h2 z => ?_)
                obtain ⟨rfl, em, mi2, rfl, cu2⟩ := z
                rw [em, hy_47]
                show ab_W _ _ _ _ 160 _ [] _ _ _
                refine aw_iinc (v := nI ((j) + 1)) (L' := [some (.ref 47), some (.ref 2), some (.int (nI (wil N))), some (.int (nI (bn N))), some (.int (nI ((j) + 1)))]) d_Days_reckon_160 rfl (nI_1 _) ⟨by decide, rfl⟩ rfl ?_
                refine aw_goto (tgt := 142) d_Days_reckon_163 (by decide) ?_
                exact ih (j + 1) mi2 (by omega) (by omega) (cu2.iff (fun v => ⟨fun z => by
                  obtain ⟨f, hf, z⟩ := z
                  by_cases e : f = j
                  · subst e; exact Or.inr z
                  · exact Or.inl ⟨f, ⟨hf.1, by omega⟩, z⟩, fun z => by
                  rcases z with ⟨f, hf, z⟩ | z
                  · exact ⟨f, ⟨hf.1, by omega⟩, z⟩
                  · exact ⟨j, ⟨by omega, by omega⟩, z⟩⟩))
          refine loop2 75 1 mi2 (by omega) (Nat.le_refl _) (Or.inl ⟨fun v z => ?_, c131⟩)
          obtain ⟨f, hf, _⟩ := z
          omega
    · refine aw_iconst (v := nI 0) d_Days_reckon_92 (by decide) ?_
      refine aw_goto (tgt := 98) d_Days_reckon_93 (by decide) ?_
      refine aw_put (k := 2) (fs' := [.int (ab_bl kn), .int (nI 0), .int (nI 0), .ref 48, .ref 49]) d_Days_reckon_98 cl_Days k_Days_60 (by decide) rfl ⟨rfl, rfl⟩ rfl (Nat.le_of_ble_eq_true rfl) rfl ?_
      rw [hy_47]
      refine aw_aload_n d_Days_reckon_101 rfl ?_
      refine aw_get (k := 2) d_Days_reckon_102 cl_Days k_Days_60 (by decide) rfl rfl ?_
      refine aw_ldc (v := nI 2147483647) d_Days_reckon_105 k_Days_59 ?_
      refine aw_icmp_ne (tgt := 125) d_Days_reckon_107 (by decide) (fun c107 => ?_) (fun c107 => ?_)
      · refine aw_aload_n d_Days_reckon_125 rfl ?_
        refine aw_get (k := 2) d_Days_reckon_126 cl_Days k_Days_60 (by decide) rfl rfl ?_
        refine aw_ldc (v := nI 2147483647) d_Days_reckon_129 k_Days_59 ?_
        refine aw_icmp_ne (tgt := 166) d_Days_reckon_131 (by decide) (fun c131 => ?_) (fun c131 => ?_)
        · refine aw_aload_n d_Days_reckon_166 rfl ?_
          refine aw_iconst (v := nI 1) d_Days_reckon_167 (by decide) ?_
          refine aw_put (k := 0) (fs' := [.int (nI 1), .int (nI 0), .int (nI 0), .ref 48, .ref 49]) d_Days_reckon_168 cl_Days k_Days_67 (by decide) rfl ⟨rfl, rfl⟩ rfl (Nat.le_of_ble_eq_true rfl) rfl ?_
          refine aw_return d_Days_reckon_171 rfl ?_
          rw [hy_47]
          first
            | exact ⟨rfl, rfl, _, _, g9, rfl, Or.inl ⟨ab_bl_1.mp c89, rfl, rfl⟩⟩
            | (refine ⟨rfl, rfl, _, _, g9, rfl, Or.inr (Or.inl ⟨nw, ?_⟩)⟩
               have cu2 := cu2.iff (P2 := V1 (N_n N) (N_w N) (N_t N) (fr N)) (fun v => ⟨fun z => Or.inr (V1_iff.mp z), fun z => z.elim False.elim (fun y => V1_iff.mpr y)⟩)
               rcases cu2 with ⟨_, z⟩ | ⟨v, z1, z2, _⟩
               · exact absurd z c131
               · exact ⟨v, z1, rfl, z2⟩)
        · first | exact absurd c131 (by decide) | exact absurd (by decide) c131
      · first | exact absurd c107 (by decide) | exact absurd (by decide) c107
  have loop : ∀ kf j (g9 : Nat → Int32), j + kf = 76 → (∀ k, k < j → (VM (N_n N) (N_w N) (mx6 k) → g9 k = nI (mls (fr N) (N_n N) (mx6 k))) ∧ (¬ VM (N_n N) (N_w N) (mx6 k) → g9 k = -1)) → ab_W Y_Days_reckon none l (fun r m2 h2 => r = none ∧ m2 = m ∧ ∃ (da mi : Int32) (g9 : Nat → Int32), h2 = HY h g9 (oD true da mi) ∧ DVN N da mi) 14 [some (.ref 47), some (.ref 2), some (.int (nI (wil N))), some (.int (nI (j))), none] [] m (ab_set h 49 (.inl (76, g9))) (0, 0) := by
    intro kf
    induction kf with
    | zero =>
      intro j g9 hj e0
      have hjn : 76 = j := by omega
      subst hjn
      refine aw_iload_n d_Days_reckon_14 rfl ?_
      refine aw_bipush (v := nI 76) d_Days_reckon_15 (by decide) ?_
      refine aw_icmp_ge (tgt := 70) d_Days_reckon_17 (by decide) (fun c17 => ?_) (fun c17 => ?_)
      · have eh : HY h g9 (oD kn da mi) = ab_set h 49 (.inl (76, g9)) := ab_set_eq (h := ab_set h 49 (.inl (76, g9))) (a := 47) h47
        exact aw_heap eh (mid g9 e0)
      · exact absurd (Int32.le_refl _) c17
    | succ kf ih =>
      intro j g9 hj e0
      refine aw_iload_n d_Days_reckon_14 rfl ?_
      refine aw_bipush (v := nI 76) d_Days_reckon_15 (by decide) ?_
      refine aw_icmp_ge (tgt := 70) d_Days_reckon_17 (by decide) (fun c17 => ?_) (fun c17 => ?_)
      · exact absurd c17 (nI_ge (by omega) (by omega))
      · refine aw_aload_n d_Days_reckon_20 rfl ?_
        refine aw_get (k := 3) d_Days_reckon_21 cl_Days k_Days_9 (by decide) h47 rfl ?_
        refine aw_iload_n d_Days_reckon_24 rfl ?_
        refine aw_ialoadN d_Days_reckon_25 h48 (by omega) (by decide) ?_
        rw [e8 j (by omega)]
        refine aw_bipush (v := nI 63) d_Days_reckon_26 (by decide) ?_
        refine aw_iload_n d_Days_reckon_28 rfl ?_
        refine aw_iconst (v := (-1)) d_Days_reckon_29 (by decide) ?_
        refine aw_ixor d_Days_reckon_30 ?_
        refine aw_iand d_Days_reckon_31 ?_
        rw [b_andn _ (by decide) _ (two_le6 hn6 (wil_lt N))]
        refine aw_s0i d_Days_reckon_32 k_Days_43 ok_Rows_areOwn rfl ⟨rfl, rfl⟩ (c_areOwn (mx6_t (show j < 76 by omega)).1 (Nat.lt_of_le_of_lt Nat.and_le_left (by decide))) rfl rfl (Nat.le_of_ble_eq_true rfl) ?_
        refine aw_topi (fun v35 ev35 => ?_)
        refine aw_istore (L' := [some (.ref 47), some (.ref 2), some (.int (nI (wil N))), some (.int (nI (j))), some (.int v35)]) d_Days_reckon_35 ⟨by decide, rfl⟩ rfl ?_
        refine aw_aload_n d_Days_reckon_37 rfl ?_
        refine aw_get (k := 4) d_Days_reckon_38 cl_Days k_Days_15 (by decide) h47 rfl ?_
        refine aw_iload_n d_Days_reckon_41 rfl ?_
        refine aw_iload d_Days_reckon_42 rfl ?_
        refine aw_if_eq (tgt := 62) d_Days_reckon_44 (by decide) (fun c44 => ?_) (fun c44 => ?_)
        · refine aw_iconst (v := (-1)) d_Days_reckon_62 (by decide) ?_
          refine aw_iastoreN d_Days_reckon_63 rfl (by omega) (by decide) ?_
          refine aw_iinc (v := nI ((j) + 1)) (L' := [some (.ref 47), some (.ref 2), some (.int (nI (wil N))), some (.int (nI ((j) + 1))), some (.int v35)]) d_Days_reckon_64 rfl (nI_1 _) ⟨by decide, rfl⟩ rfl ?_
          refine aw_goto (tgt := 14) d_Days_reckon_67 (by decide) ?_
          rw [ab_set_set]
          refine aw_drop 4 (ih (j + 1) _ (by omega) (fun k hk => ?_))
          by_cases e : k = j
          · subst e
            rw [pk_us]
            rw [ev35] at c44
            first
              | (have nv : ¬ VM (N_n N) (N_w N) (mx6 k) := fun z => by rw [(can_iff ok (by omega)).mpr z] at c44; exact absurd c44 (by decide)
                 exact ⟨fun z => absurd z nv, fun _ => rfl⟩)
              | (have yv : VM (N_n N) (N_w N) (mx6 k) := (can_iff ok (by omega)).mp (ab_bl_1.mp c44)
                 exact ⟨fun _ => by rw [mls_ffo hn6 (mx6_t (show k < 76 by omega)).1], fun z => absurd yv z⟩)
          · rw [pk_un e]; exact e0 k (by omega)
        · refine aw_aload_n d_Days_reckon_47 rfl ?_
          refine aw_aload_n d_Days_reckon_48 rfl ?_
          refine aw_get (k := 3) d_Days_reckon_49 cl_Days k_Days_9 (by decide) h47 rfl ?_
          refine aw_iload_n d_Days_reckon_52 rfl ?_
          refine aw_ialoadN d_Days_reckon_53 h48 (by omega) (by decide) ?_
          rw [e8 j (by omega)]
          refine aw_bipush (v := nI 63) d_Days_reckon_54 (by decide) ?_
          refine aw_v0i (a := 2) d_Days_reckon_56 k_Days_47 ok_Night_farFromOwners rfl ⟨rfl, rfl⟩ cl_Night n0 (c_ffo (h := ab_set h 49 (.inl (76, g9))) (hX.fr (fun k _ _ => ab_set_ne (by omega))) ok (mx6_t (show j < 76 by omega)).1 (show 63 < 2 ^ 31 by decide)) rfl rfl (Nat.le_of_ble_eq_true rfl) ?_
          refine aw_goto (tgt := 63) d_Days_reckon_59 (by decide) ?_
          refine aw_iastoreN d_Days_reckon_63 rfl (by omega) (by decide) ?_
          refine aw_iinc (v := nI ((j) + 1)) (L' := [some (.ref 47), some (.ref 2), some (.int (nI (wil N))), some (.int (nI ((j) + 1))), some (.int v35)]) d_Days_reckon_64 rfl (nI_1 _) ⟨by decide, rfl⟩ rfl ?_
          refine aw_goto (tgt := 14) d_Days_reckon_67 (by decide) ?_
          rw [ab_set_set]
          refine aw_drop 4 (ih (j + 1) _ (by omega) (fun k hk => ?_))
          by_cases e : k = j
          · subst e
            rw [pk_us]
            rw [ev35] at c44
            first
              | (have nv : ¬ VM (N_n N) (N_w N) (mx6 k) := fun z => by rw [(can_iff ok (by omega)).mpr z] at c44; exact absurd c44 (by decide)
                 exact ⟨fun z => absurd z nv, fun _ => rfl⟩)
              | (have yv : VM (N_n N) (N_w N) (mx6 k) := (can_iff ok (by omega)).mp (ab_bl_1.mp c44)
                 exact ⟨fun _ => by rw [mls_ffo hn6 (mx6_t (show k < 76 by omega)).1], fun z => absurd yv z⟩)
          · rw [pk_un e]; exact e0 k (by omega)
  refine aw_aload_n d_Days_reckon_0 rfl ?_
  refine aw_v0i (a := 2) d_Days_reckon_1 k_Days_33 ok_Night_all rfl ⟨rfl, rfl⟩ cl_Night n0 (c_all2 n0 hn6) rfl rfl (Nat.le_of_ble_eq_true rfl) ?_
  refine aw_aload_n d_Days_reckon_4 rfl ?_
  refine aw_get (k := 7) d_Days_reckon_5 cl_Night k_Days_39 (by decide) n0 rfl ?_
  refine aw_iconst (v := (-1)) d_Days_reckon_8 (by decide) ?_
  refine aw_ixor d_Days_reckon_9 ?_
  refine aw_iand d_Days_reckon_10 ?_
  rw [b_andn _ (b_63 _ hn6) _ hw6]
  refine aw_istore_n (L' := [some (.ref 47), some (.ref 2), some (.int (nI (wil N))), none, none]) d_Days_reckon_11 ⟨by decide, rfl⟩ rfl ?_
  refine aw_iconst (v := nI 0) d_Days_reckon_12 (by decide) ?_
  refine aw_istore_n (L' := [some (.ref 47), some (.ref 2), some (.int (nI (wil N))), some (.int (nI 0)), none]) d_Days_reckon_13 ⟨by decide, rfl⟩ rfl ?_
  exact aw_heap (ab_set_eq (h := h) (a := 49) h49) (loop 76 0 g9 (by omega) (fun k hk => absurd hk (Nat.not_lt_zero _)))
