theorem sp_finds_nn {S : SS} {s : Nat} {lane i : Int32} {n : Int} (h : ¬ sp_finds S s lane i n < 0) : 0 ≤ i.toInt ∧ i.toInt + n ≤ (S_sz S s).toInt := by
  unfold sp_finds at h
  by_cases h2 : S_la S s = -1
  · rw [if_pos h2] at h
    exact absurd (by decide) h
  · rw [if_neg h2] at h
    by_cases h3 : ¬ S_la S s = lane
    · rw [if_pos h3] at h
      exact absurd (by decide) h
    · rw [if_neg h3] at h
      by_cases h4 : i.toInt < 0 ∨ (S_sz S s).toInt < i.toInt + n
      · rw [if_pos h4] at h
        exact absurd (by decide) h
      · omega
theorem sp_finds_ng {S : SS} {s : Nat} {i : Int32} {n : Int} (h : sp_finds S s (S_la S s) i n < 0) (h1 : ¬ S_la S s = -1) : i.toInt < 0 ∨ (S_sz S s).toInt < i.toInt + n := by
  unfold sp_finds at h
  rw [if_neg h1, if_neg (fun q => q rfl)] at h
  by_cases h4 : i.toInt < 0 ∨ (S_sz S s).toInt < i.toInt + n
  · exact h4
  · rw [if_neg h4] at h
    exact absurd h (by decide)
theorem l_copy1 {X : ab_X} {l : Launch} {Q : Option Value → Nat → ab_H → Prop} {m : Nat} {h : ab_H} {us : Nat × Nat} {n0 ns ra se : Nat} {me mi tab ve la : Int32} {tl : Nat} {at_ wr : Int32} {fe : Nat} {kp : Bool} (hM : h 56 = oM n0 ns ra se me mi tab ve la tl at_ wr fe kp) {s i u j n : Nat} (hs : s < 4) (hu : u < 4) (hi : i + n ≤ 24) (hj : j + n ≤ 24) {gi : Nat → Int32} (hit : h 87 = .inl (96, gi))
    (ex : ∀ g : Nat → Int32, (∀ k, k < n → g k = gi (24 * s + i + k)) → ab_W Y_M_copy X l Q 135 [some (.ref 56), some (.int (nI s)), some (.int (nI i)), some (.int (nI u)), some (.int (nI j)), some (.int (nI n)), some (.int (nI n))] [] m (ab_set h 88 (.inl (24, g))) us) :
    ∀ k x (g : Nat → Int32), x + k = n → (∀ k, k < x → g k = gi (24 * s + i + k)) → ab_W Y_M_copy X l Q 101 [some (.ref 56), some (.int (nI s)), some (.int (nI i)), some (.int (nI u)), some (.int (nI j)), some (.int (nI n)), some (.int (nI x))] [] m (ab_set h 88 (.inl (24, g))) us := by
  intro k
  induction k with
  | zero =>
    intro x g hx h1
    have hx : x = n := by omega
    subst hx
    refine aw_iload d_M_copy_101 rfl ?_
    refine aw_iload d_M_copy_103 rfl ?_
    refine aw_icmp_ge (tgt := 135) d_M_copy_105 (by decide) (fun c105 => ?_) (fun c105 => ?_)
    · exact ex g h1
    · exact absurd (Int32.le_refl _) c105
  | succ k ih =>
    intro x g hx h1
    refine aw_iload d_M_copy_101 rfl ?_
    refine aw_iload d_M_copy_103 rfl ?_
    refine aw_icmp_ge (tgt := 135) d_M_copy_105 (by decide) (fun c105 => ?_) (fun c105 => ?_)
    · exact absurd c105 (nI_ge (by omega) (by omega))
    · refine aw_aload_n d_M_copy_108 rfl ?_
      refine aw_get (k := 45) d_M_copy_109 cl_Model k_M_115 (by decide) hM rfl ?_
      refine aw_iload d_M_copy_112 rfl ?_
      refine aw_aload_n d_M_copy_114 rfl ?_
      refine aw_get (k := 44) d_M_copy_115 cl_Model k_M_112 (by decide) hM rfl ?_
      refine aw_bipush (v := nI 24) d_M_copy_118 (by decide) ?_
      refine aw_iload_n d_M_copy_120 rfl ?_
      refine aw_imul d_M_copy_121 ?_
      refine aw_iload_n d_M_copy_122 rfl ?_
      refine aw_iadd d_M_copy_123 ?_
      refine aw_iload d_M_copy_124 rfl ?_
      refine aw_iadd d_M_copy_126 ?_
      rw [pk_mul, nI_add, nI_add]
      refine aw_ialoadN d_M_copy_127 hit (by omega) (by decide) ?_
      refine aw_iastoreN d_M_copy_128 rfl (by omega) (by decide) ?_
      rw [ab_set_set]
      refine aw_iinc (v := nI (x + 1)) (L' := [some (.ref 56), some (.int (nI s)), some (.int (nI i)), some (.int (nI u)), some (.int (nI j)), some (.int (nI n)), some (.int (nI (x + 1)))]) d_M_copy_129 rfl (nI_1 _) ⟨by decide, rfl⟩ rfl ?_
      refine aw_goto (tgt := 101) d_M_copy_132 (by decide) ?_
      refine ih (x + 1) _ (by omega) (fun k hk => ?_)
      by_cases e : k = x
      · subst e; rw [pk_us]
      · rw [pk_un e]; exact h1 k (by omega)
theorem l_copy2 {X : ab_X} {l : Launch} {Q : Option Value → Nat → ab_H → Prop} {m : Nat} {h : ab_H} {us : Nat × Nat} {n0 ns ra se : Nat} {me mi tab ve la : Int32} {tl : Nat} {at_ wr : Int32} {fe : Nat} {kp : Bool} (hM : h 56 = oM n0 ns ra se me mi tab ve la tl at_ wr fe kp) {s i u j n : Nat} (hs : s < 4) (hu : u < 4) (hi : i + n ≤ 24) (hj : j + n ≤ 24) {gv g0 : Nat → Int32} (hmv : h 88 = .inl (24, gv))
    (ex : ∀ g : Nat → Int32, (∀ k, k < n → g (24 * u + j + k) = gv k) → (∀ k, (k < 24 * u + j ∨ 24 * u + j + n ≤ k) → g k = g0 k) → ab_W Y_M_copy X l Q 173 [some (.ref 56), some (.int (nI s)), some (.int (nI i)), some (.int (nI u)), some (.int (nI j)), some (.int (nI n)), some (.int (nI n))] [] m (ab_set h 87 (.inl (96, g))) us) :
    ∀ k x (g : Nat → Int32), x + k = n → (∀ k, k < x → g (24 * u + j + k) = gv k) → (∀ k, (k < 24 * u + j ∨ 24 * u + j + n ≤ k) → g k = g0 k) → ab_W Y_M_copy X l Q 138 [some (.ref 56), some (.int (nI s)), some (.int (nI i)), some (.int (nI u)), some (.int (nI j)), some (.int (nI n)), some (.int (nI x))] [] m (ab_set h 87 (.inl (96, g))) us := by
  intro k
  induction k with
  | zero =>
    intro x g hx h1 h2
    have hx : x = n := by omega
    subst hx
    refine aw_iload d_M_copy_138 rfl ?_
    refine aw_iload d_M_copy_140 rfl ?_
    refine aw_icmp_ge (tgt := 173) d_M_copy_142 (by decide) (fun c142 => ?_) (fun c142 => ?_)
    · exact ex g h1 h2
    · exact absurd (Int32.le_refl _) c142
  | succ k ih =>
    intro x g hx h1 h2
    refine aw_iload d_M_copy_138 rfl ?_
    refine aw_iload d_M_copy_140 rfl ?_
    refine aw_icmp_ge (tgt := 173) d_M_copy_142 (by decide) (fun c142 => ?_) (fun c142 => ?_)
    · exact absurd c142 (nI_ge (by omega) (by omega))
    · refine aw_aload_n d_M_copy_145 rfl ?_
      refine aw_get (k := 44) d_M_copy_146 cl_Model k_M_112 (by decide) hM rfl ?_
      refine aw_bipush (v := nI 24) d_M_copy_149 (by decide) ?_
      refine aw_iload_n d_M_copy_151 rfl ?_
      refine aw_imul d_M_copy_152 ?_
      refine aw_iload d_M_copy_153 rfl ?_
      refine aw_iadd d_M_copy_155 ?_
      refine aw_iload d_M_copy_156 rfl ?_
      refine aw_iadd d_M_copy_158 ?_
      rw [pk_mul, nI_add, nI_add]
      refine aw_aload_n d_M_copy_159 rfl ?_
      refine aw_get (k := 45) d_M_copy_160 cl_Model k_M_115 (by decide) hM rfl ?_
      refine aw_iload d_M_copy_163 rfl ?_
      refine aw_ialoadN d_M_copy_165 hmv (by omega) (by decide) ?_
      refine aw_iastoreN d_M_copy_166 rfl (by omega) (by decide) ?_
      rw [ab_set_set]
      refine aw_iinc (v := nI (x + 1)) (L' := [some (.ref 56), some (.int (nI s)), some (.int (nI i)), some (.int (nI u)), some (.int (nI j)), some (.int (nI n)), some (.int (nI (x + 1)))]) d_M_copy_167 rfl (nI_1 _) ⟨by decide, rfl⟩ rfl ?_
      refine aw_goto (tgt := 138) d_M_copy_170 (by decide) ?_
      refine ih (x + 1) _ (by omega) (fun k hk => ?_) (fun k hk => ?_)
      · by_cases e : k = x
        · subst e; rw [pk_us]
        · rw [pk_un (by omega)]; exact h1 k (by omega)
      · rw [pk_un (by omega)]; exact h2 k hk
theorem y_copy {V : VV} {m c : Nat} {h : ab_H} {S : SS} (hM : PM V c h S) (ok : S_ok S) (hc : c < 900)  (a a1 b b1 z : Int32) : CM V Y_M_copy [.int a, .int a1, .int b, .int b1, .int z] m c h (fun r S2 => (r, S2) = sp_copy S a a1 b b1 z) := by
  obtain ⟨⟨tab, la, at_, wr, ve, fs, ft, m0, m1, m2, m3, m4, m5, m6⟩, ⟨n0, n1, n2, n3, n4, n5, n6, n7, n8, n9⟩, q1, q2, q3, q4⟩ := id hM
  have hn6 : N_n (S_N S) ≤ 6 := ok.1.1
  have hnT := nI_toInt (show N_n (S_N S) < 2 ^ 31 by omega)
  refine ab_C.of (L := [some (.ref 56), some (.int a), some (.int a1), some (.int b), some (.int b1), some (.int z), none]) rfl rfl (Nat.le_of_ble_eq_true rfl) (fun l => ?_)
  obtain ⟨⟨gl, hl, al⟩, ⟨gz, hz, az⟩, ⟨gi, hi, ai⟩, ⟨gv, hv⟩⟩ := id q2
  refine aw_iload_n d_M_copy_0 rfl ?_
  refine aw_s0i d_M_copy_1 k_M_156 ok_M_isSheet rfl ⟨rfl, rfl⟩ (c_M_isSheet a) rfl rfl (Nat.le_of_ble_eq_true rfl) ?_
  refine aw_if_eq (tgt := 14) d_M_copy_4 (by decide) (fun c4 => ?_) (fun c4 => ?_)
  · refine aw_iconst (v := (-1)) d_M_copy_14 (by decide) ?_
    refine aw_ireturn d_M_copy_15 rfl rfl ?_
    refine ⟨_, S, rfl, ?_, ⟨⟨tab, la, at_, wr, ve, fs, ft, m0, by omega, by omega, m3, m4, m5, m6⟩, ⟨n0, n1, n2, n3, n4, n5, n6, n7, n8, n9⟩, q1, q2, q3, q4⟩, rfl, fun k _ => rfl⟩
    unfold sp_copy
    rw [if_neg]
    intro q
    first
      | exact of_decide_eq_false (ab_bl_0.mp c11) q.2
      | exact of_decide_eq_false (ab_bl_0.mp c4) q.1
  · refine aw_iload_n d_M_copy_7 rfl ?_
    refine aw_s0i d_M_copy_8 k_M_156 ok_M_isSheet rfl ⟨rfl, rfl⟩ (c_M_isSheet b) rfl rfl (Nat.le_of_ble_eq_true rfl) ?_
    refine aw_if_ne (tgt := 16) d_M_copy_11 (by decide) (fun c11 => ?_) (fun c11 => ?_)
    · have k4 := of_decide_eq_true (ab_bl_1.mp c4)
      have k11 := of_decide_eq_true (ab_bl_1.mp c11)
      obtain ⟨s, hs, rfl⟩ := irC (n := 3) k4
      obtain ⟨u, hu, rfl⟩ := irC (n := 3) k11
      have e0 := al s (by omega)
      have e1 := al u (by omega)
      refine aw_aload_n d_M_copy_16 rfl ?_
      refine aw_get (k := 42) d_M_copy_17 cl_Model k_M_106 (by decide) m0 rfl ?_
      refine aw_iload_n d_M_copy_20 rfl ?_
      refine aw_ialoadN d_M_copy_21 hl (by omega) (by decide) ?_
      refine aw_if_lt (tgt := 34) d_M_copy_22 (by decide) (fun c22 => ?_) (fun c22 => ?_)
      · refine aw_bipush (v := (-11)) d_M_copy_34 (by decide) ?_
        refine aw_ireturn d_M_copy_36 rfl rfl ?_
        refine ⟨_, S, rfl, ?_, ⟨⟨tab, la, at_, wr, ve, fs, ft, m0, by omega, by omega, m3, m4, m5, m6⟩, ⟨n0, n1, n2, n3, n4, n5, n6, n7, n8, n9⟩, q1, q2, q3, q4⟩, rfl, fun k _ => rfl⟩
        unfold sp_copy
        rw [if_pos ⟨k4, k11⟩, cl_nI (show s < 2 ^ 31 by omega), cl_nI (show u < 2 ^ 31 by omega), if_pos]
        first
          | (rw [e1] at c31
             exact Or.inr (Classical.not_not.mp (fun q => c31 ((la_neg ok (show u < 4 by omega)).2.mpr q))))
          | (rw [e0] at c22
             exact Or.inl ((la_neg ok (show s < 4 by omega)).1.mp c22))
      · refine aw_aload_n d_M_copy_25 rfl ?_
        refine aw_get (k := 42) d_M_copy_26 cl_Model k_M_106 (by decide) m0 rfl ?_
        refine aw_iload_n d_M_copy_29 rfl ?_
        refine aw_ialoadN d_M_copy_30 hl (by omega) (by decide) ?_
        refine aw_if_ge (tgt := 37) d_M_copy_31 (by decide) (fun c31 => ?_) (fun c31 => ?_)
        · refine aw_aload_n d_M_copy_37 rfl ?_
          refine aw_get (k := 42) d_M_copy_38 cl_Model k_M_106 (by decide) m0 rfl ?_
          refine aw_iload_n d_M_copy_41 rfl ?_
          refine aw_ialoadN d_M_copy_42 hl (by omega) (by decide) ?_
          refine aw_aload_n d_M_copy_43 rfl ?_
          refine aw_get (k := 42) d_M_copy_44 cl_Model k_M_106 (by decide) m0 rfl ?_
          refine aw_iload_n d_M_copy_47 rfl ?_
          refine aw_ialoadN d_M_copy_48 hl (by omega) (by decide) ?_
          refine aw_icmp_eq (tgt := 55) d_M_copy_49 (by decide) (fun c49 => ?_) (fun c49 => ?_)
          · rw [e0, e1] at c49
            have y3 : S_la S s = S_la S u := c49
            rw [e0] at c22
            rw [e1] at c31
            have y1 := (la_neg ok (show s < 4 by omega)).2.mp (Int32.not_lt.mp c22)
            have y2 := (la_neg ok (show u < 4 by omega)).2.mp c31
            refine aw_iload d_M_copy_55 rfl ?_
            refine aw_if_lt (tgt := 95) d_M_copy_57 (by decide) (fun c57 => ?_) (fun c57 => ?_)
            · refine aw_bipush (v := (-13)) d_M_copy_95 (by decide) ?_
              refine aw_ireturn d_M_copy_97 rfl rfl ?_
              refine ⟨_, S, rfl, ?_, ⟨⟨tab, la, at_, wr, ve, fs, ft, m0, by omega, by omega, m3, m4, m5, m6⟩, ⟨n0, n1, n2, n3, n4, n5, n6, n7, n8, n9⟩, q1, q2, q3, q4⟩, rfl, fun k _ => rfl⟩
              unfold sp_copy
              rw [if_pos ⟨k4, k11⟩, cl_nI (show s < 2 ^ 31 by omega), cl_nI (show u < 2 ^ 31 by omega), if_neg (by rintro (q | q); exact y1 q; exact y2 q), if_neg (fun q => q y3), if_pos]
              first
                | (rw [fa_lt, Int32.toInt_zero] at c57; omega)
                | (rw [e0] at c74
                   have := sp_finds_ng c74 y1
                   omega)
                | (rw [e1] at c92
                   have := sp_finds_ng (Int32.not_le.mp c92) y2
                   omega)
            · refine aw_aload_n d_M_copy_60 rfl ?_
              refine aw_iload_n d_M_copy_61 rfl ?_
              refine aw_aload_n d_M_copy_62 rfl ?_
              refine aw_get (k := 42) d_M_copy_63 cl_Model k_M_106 (by decide) m0 rfl ?_
              refine aw_iload_n d_M_copy_66 rfl ?_
              refine aw_ialoadN d_M_copy_67 hl (by omega) (by decide) ?_
              refine aw_iload_n d_M_copy_68 rfl ?_
              refine aw_iload d_M_copy_69 rfl ?_
              refine aw_v0i d_M_copy_71 k_M_162 ok_M_finds rfl ⟨rfl, rfl⟩ cl_Model m0 (c_M_finds ok m0 hl al hz az s (by omega) (gl s) a1 z) rfl rfl (Nat.le_of_ble_eq_true rfl) ?_
              refine aw_if_lt (tgt := 95) d_M_copy_74 (by decide) (fun c74 => ?_) (fun c74 => ?_)
              · refine aw_bipush (v := (-13)) d_M_copy_95 (by decide) ?_
                refine aw_ireturn d_M_copy_97 rfl rfl ?_
                refine ⟨_, S, rfl, ?_, ⟨⟨tab, la, at_, wr, ve, fs, ft, m0, by omega, by omega, m3, m4, m5, m6⟩, ⟨n0, n1, n2, n3, n4, n5, n6, n7, n8, n9⟩, q1, q2, q3, q4⟩, rfl, fun k _ => rfl⟩
                unfold sp_copy
                rw [if_pos ⟨k4, k11⟩, cl_nI (show s < 2 ^ 31 by omega), cl_nI (show u < 2 ^ 31 by omega), if_neg (by rintro (q | q); exact y1 q; exact y2 q), if_neg (fun q => q y3), if_pos]
                first
                  | (rw [fa_lt, Int32.toInt_zero] at c57; omega)
                  | (rw [e0] at c74
                     have := sp_finds_ng c74 y1
                     omega)
                  | (rw [e1] at c92
                     have := sp_finds_ng (Int32.not_le.mp c92) y2
                     omega)
              · refine aw_aload_n d_M_copy_77 rfl ?_
                refine aw_iload_n d_M_copy_78 rfl ?_
                refine aw_aload_n d_M_copy_79 rfl ?_
                refine aw_get (k := 42) d_M_copy_80 cl_Model k_M_106 (by decide) m0 rfl ?_
                refine aw_iload_n d_M_copy_83 rfl ?_
                refine aw_ialoadN d_M_copy_84 hl (by omega) (by decide) ?_
                refine aw_iload d_M_copy_85 rfl ?_
                refine aw_iload d_M_copy_87 rfl ?_
                refine aw_v0i d_M_copy_89 k_M_162 ok_M_finds rfl ⟨rfl, rfl⟩ cl_Model m0 (c_M_finds ok m0 hl al hz az u (by omega) (gl u) b1 z) rfl rfl (Nat.le_of_ble_eq_true rfl) ?_
                refine aw_if_ge (tgt := 98) d_M_copy_92 (by decide) (fun c92 => ?_) (fun c92 => ?_)
                · have z1 := sp_finds_nn c74
                  have z2 := sp_finds_nn (Int32.not_lt.mpr c92)
                  rw [fa_lt, Int32.toInt_zero] at c57
                  obtain ⟨j1, x1, w1⟩ := (ok.2.2.2.2 s (by omega)).2
                  obtain ⟨j2, x2, w2⟩ := (ok.2.2.2.2 u (by omega)).2
                  have w1T : (S_sz S s).toInt = j1 := by rw [w1]; exact nI_toInt (by omega)
                  have w2T : (S_sz S u).toInt = j2 := by rw [w2]; exact nI_toInt (by omega)
                  obtain ⟨i, hi9, rfl⟩ : ∃ b : Nat, (b : Int) = a1.toInt ∧ a1 = nI b := ⟨cl a1, cl_int (by omega), cl_of (by omega)⟩
                  obtain ⟨j, hj9, rfl⟩ : ∃ b : Nat, (b : Int) = b1.toInt ∧ b1 = nI b := ⟨cl b1, cl_int (by omega), cl_of (by omega)⟩
                  obtain ⟨n, hn9, rfl⟩ : ∃ b : Nat, (b : Int) = z.toInt ∧ z = nI b := ⟨cl z, cl_int (by omega), cl_of (by omega)⟩
                  refine aw_iconst (v := nI 0) d_M_copy_98 (by decide) ?_
                  refine aw_istore (L' := [some (.ref 56), some (.int (nI s)), some (.int (nI i)), some (.int (nI u)), some (.int (nI j)), some (.int (nI n)), some (.int (nI 0))]) d_M_copy_99 ⟨by decide, rfl⟩ rfl ?_
                  have lp := l_copy1 (X := none) (l := l) (Q := fun r m2 h2 => ∃ (v : Int32) (S2 : SS), r = some (.int v) ∧ (v, S2) = sp_copy S (nI s) (nI i) (nI u) (nI j) (nI n) ∧ PM V (c + 1) h2 S2 ∧ m2 = m ∧ ∀ k, (k < 56 ∨ 88 < k) → h2 k = h k) (m := m) (us := (0, 0)) (h := h) m0 (s := s) (i := i) (u := u) (j := j) (n := n) (by omega) (by omega) (by omega) (by omega) hi (fun g f1 => ?_) n 0 gv (by omega) (fun k hk => absurd hk (by omega))
                  · rw [ab_set_eq hv] at lp
                    exact lp
                  · have m0' : ab_set h 88 (.inl (24, g)) 56 = _ := m0
                    have hi' : ab_set h 88 (.inl (24, g)) 87 = _ := hi
                    refine aw_iconst (v := nI 0) d_M_copy_135 (by decide) ?_
                    refine aw_istore (L' := [some (.ref 56), some (.int (nI s)), some (.int (nI i)), some (.int (nI u)), some (.int (nI j)), some (.int (nI n)), some (.int (nI 0))]) d_M_copy_136 ⟨by decide, rfl⟩ rfl ?_
                    have lp2 := l_copy2 (X := none) (l := l) (Q := fun r m2 h2 => ∃ (v : Int32) (S2 : SS), r = some (.int v) ∧ (v, S2) = sp_copy S (nI s) (nI i) (nI u) (nI j) (nI n) ∧ PM V (c + 1) h2 S2 ∧ m2 = m ∧ ∀ k, (k < 56 ∨ 88 < k) → h2 k = h k) (m := m) (us := (0, 0)) (h := ab_set h 88 (.inl (24, g))) m0 (s := s) (i := i) (u := u) (j := j) (n := n) (by omega) (by omega) (by omega) (by omega) (gv := g) (g0 := gi) rfl (fun g2 e2 e3 => ?_) n 0 gi (by omega) (fun k hk => absurd hk (by omega)) (fun k hk => rfl)
                    · rw [ab_set_eq hi'] at lp2
                      exact lp2
                    · refine aw_iload d_M_copy_173 rfl ?_
                      refine aw_ireturn d_M_copy_175 rfl rfl ?_
                      refine ⟨_, S_it_ S (ud (S_it S) u (fun k => if j ≤ k ∧ k < j + n then S_it S s (i + (k - j)) else S_it S u k)), rfl, ?_, ⟨⟨tab, la, at_, wr, ve, fs, ft, m0, by omega, by omega, m3, m4, m5, m6⟩, ⟨n0, n1, n2, n3, n4, n5, n6, n7, n8, n9⟩, q1, ⟨⟨gl, hl, al⟩, ⟨gz, hz, az⟩, ⟨g2, rfl, fun x k hx hk => ?_⟩, ⟨g, rfl⟩⟩, q3, q4⟩, rfl, (fun k hk => by rw [ab_set_ne (by omega), ab_set_ne (by omega)])⟩
                      · have cv := cl_nI (show s < 2 ^ 31 by omega)
                        have cu := cl_nI (show u < 2 ^ 31 by omega)
                        have ci := cl_nI (show i < 2 ^ 31 by omega)
                        have cj := cl_nI (show j < 2 ^ 31 by omega)
                        have cn := cl_nI (show n < 2 ^ 31 by omega)
                        unfold sp_copy
                        rw [if_pos ⟨k4, k11⟩, cv, cu, ci, cj, cn, if_neg (by rintro (q | q); exact y1 q; exact y2 q), if_neg (fun q => q y3), if_neg (by omega)]
                      · by_cases e : x = u
                        · subst e
                          show g2 (24 * x + k) = ud (S_it S) x _ x k
                          rw [ud_s]
                          by_cases e9 : j ≤ k ∧ k < j + n
                          · rw [if_pos e9, show 24 * x + k = 24 * x + j + (k - j) by omega, e2 _ (by omega), f1 _ (by omega), show 24 * s + i + (k - j) = 24 * s + (i + (k - j)) by omega]
                            exact ai s _ (by omega) (by omega)
                          · rw [if_neg e9, e3 _ (by omega)]
                            exact ai x k hx hk
                        · show g2 (24 * x + k) = ud (S_it S) u _ x k
                          rw [ud_n e, e3 _ (by omega)]
                          exact ai x k hx hk
                · refine aw_bipush (v := (-13)) d_M_copy_95 (by decide) ?_
                  refine aw_ireturn d_M_copy_97 rfl rfl ?_
                  refine ⟨_, S, rfl, ?_, ⟨⟨tab, la, at_, wr, ve, fs, ft, m0, by omega, by omega, m3, m4, m5, m6⟩, ⟨n0, n1, n2, n3, n4, n5, n6, n7, n8, n9⟩, q1, q2, q3, q4⟩, rfl, fun k _ => rfl⟩
                  unfold sp_copy
                  rw [if_pos ⟨k4, k11⟩, cl_nI (show s < 2 ^ 31 by omega), cl_nI (show u < 2 ^ 31 by omega), if_neg (by rintro (q | q); exact y1 q; exact y2 q), if_neg (fun q => q y3), if_pos]
                  first
                    | (rw [fa_lt, Int32.toInt_zero] at c57; omega)
                    | (rw [e0] at c74
                       have := sp_finds_ng c74 y1
                       omega)
                    | (rw [e1] at c92
                       have := sp_finds_ng (Int32.not_le.mp c92) y2
                       omega)
          · refine aw_bipush (v := (-12)) d_M_copy_52 (by decide) ?_
            refine aw_ireturn d_M_copy_54 rfl rfl ?_
            refine ⟨_, S, rfl, ?_, ⟨⟨tab, la, at_, wr, ve, fs, ft, m0, by omega, by omega, m3, m4, m5, m6⟩, ⟨n0, n1, n2, n3, n4, n5, n6, n7, n8, n9⟩, q1, q2, q3, q4⟩, rfl, fun k _ => rfl⟩
            rw [e0, e1] at c49
            rw [e0] at c22
            rw [e1] at c31
            have y1 := (la_neg ok (show s < 4 by omega)).2.mp (Int32.not_lt.mp c22)
            have y2 := (la_neg ok (show u < 4 by omega)).2.mp c31
            unfold sp_copy
            rw [if_pos ⟨k4, k11⟩, cl_nI (show s < 2 ^ 31 by omega), cl_nI (show u < 2 ^ 31 by omega), if_neg (by rintro (q | q); exact y1 q; exact y2 q), if_pos c49]
        · refine aw_bipush (v := (-11)) d_M_copy_34 (by decide) ?_
          refine aw_ireturn d_M_copy_36 rfl rfl ?_
          refine ⟨_, S, rfl, ?_, ⟨⟨tab, la, at_, wr, ve, fs, ft, m0, by omega, by omega, m3, m4, m5, m6⟩, ⟨n0, n1, n2, n3, n4, n5, n6, n7, n8, n9⟩, q1, q2, q3, q4⟩, rfl, fun k _ => rfl⟩
          unfold sp_copy
          rw [if_pos ⟨k4, k11⟩, cl_nI (show s < 2 ^ 31 by omega), cl_nI (show u < 2 ^ 31 by omega), if_pos]
          first
            | (rw [e1] at c31
               exact Or.inr (Classical.not_not.mp (fun q => c31 ((la_neg ok (show u < 4 by omega)).2.mpr q))))
            | (rw [e0] at c22
               exact Or.inl ((la_neg ok (show s < 4 by omega)).1.mp c22))
    · refine aw_iconst (v := (-1)) d_M_copy_14 (by decide) ?_
      refine aw_ireturn d_M_copy_15 rfl rfl ?_
      refine ⟨_, S, rfl, ?_, ⟨⟨tab, la, at_, wr, ve, fs, ft, m0, by omega, by omega, m3, m4, m5, m6⟩, ⟨n0, n1, n2, n3, n4, n5, n6, n7, n8, n9⟩, q1, q2, q3, q4⟩, rfl, fun k _ => rfl⟩
      unfold sp_copy
      rw [if_neg]
      intro q
      first
        | exact of_decide_eq_false (ab_bl_0.mp c11) q.2
        | exact of_decide_eq_false (ab_bl_0.mp c4) q.1
theorem or_top : ∀ n, n < 6 → ∀ b, b < 2 ^ n → nI b ||| nI 1 <<< (nI n &&& 31) = nI (b + 2 ^ n) := by
  intro n hn b hb
  have h2 : ∀ n, n < 6 → ∀ b, b < 64 → b < 2 ^ n → nI b ||| nI 1 <<< (nI n &&& 31) = nI (b + 2 ^ n) := by decide +kernel
  exact h2 n hn b (two_le6 (by omega) hb) hb
theorem l_Mperson {X : ab_X} {l : Launch} {Q : Option Value → Nat → ab_H → Prop} {m : Nat} {h : ab_H} {us : Nat × Nat} {n ns ra se : Nat} {me mi tab ve la : Int32} {tl : Nat} {at_ wr : Int32} {fe : Nat} {kp : Bool} (hM : h 56 = oM n ns ra se me mi tab ve la tl at_ wr fe kp) (hn6 : n < 6) {x y v : Int32} {f : Nat → Nat} (hf : ∀ k, k < n → f k < 2 ^ n)
    (ex : ∀ g : Nat → Int32, (∀ k, k < n → g k = nI (f k + 2 ^ n)) → ab_W Y_M_person X l Q 68 [some (.ref 56), some (.int x), some (.int y), some (.int v), some (.int (nI n))] [] m (ab_set h 63 (.inl (6, g))) us) :
    ∀ k i (g : Nat → Int32), i + k = n → (∀ k, k < i → g k = nI (f k + 2 ^ n)) → (∀ k, i ≤ k → k < n → g k = nI (f k)) → ab_W Y_M_person X l Q 37 [some (.ref 56), some (.int x), some (.int y), some (.int v), some (.int (nI i))] [] m (ab_set h 63 (.inl (6, g))) us := by
  intro k
  induction k with
  | zero =>
    intro i g hi h1 h2
    have hi : i = n := by omega
    subst hi
    refine aw_iload d_M_person_37 rfl ?_
    refine aw_aload_n d_M_person_39 rfl ?_
    refine aw_get (k := 0) d_M_person_40 cl_Model k_M_118 (by decide) hM rfl ?_
    refine aw_icmp_ge (tgt := 68) d_M_person_43 (by decide) (fun c43 => ?_) (fun c43 => ?_)
    · exact ex g h1
    · exact absurd (Int32.le_refl _) c43
  | succ k ih =>
    intro i g hi h1 h2
    have hb : nI (f i) ||| nI 1 <<< (nI n &&& 31) = nI (f i + 2 ^ n) := or_top _ hn6 _ (hf i (by omega))
    refine aw_iload d_M_person_37 rfl ?_
    refine aw_aload_n d_M_person_39 rfl ?_
    refine aw_get (k := 0) d_M_person_40 cl_Model k_M_118 (by decide) hM rfl ?_
    refine aw_icmp_ge (tgt := 68) d_M_person_43 (by decide) (fun c43 => ?_) (fun c43 => ?_)
    · exact absurd c43 (nI_ge (by omega) (by omega))
    · refine aw_aload_n d_M_person_46 rfl ?_
      refine aw_get (k := 7) d_M_person_47 cl_Model k_M_28 (by decide) hM rfl ?_
      refine aw_iload d_M_person_50 rfl ?_
      refine aw_dup2 d_M_person_52 rfl rfl ?_
      refine aw_ialoadN d_M_person_53 rfl (by omega) (by decide) ?_
      refine aw_iconst (v := nI 1) d_M_person_54 (by decide) ?_
      refine aw_aload_n d_M_person_55 rfl ?_
      refine aw_get (k := 0) d_M_person_56 cl_Model k_M_118 (by decide) hM rfl ?_
      refine aw_ishl d_M_person_59 ?_
      refine aw_ior d_M_person_60 ?_
      rw [h2 i (Nat.le_refl _) (by omega), hb]
      refine aw_iastoreN d_M_person_61 rfl (by omega) (by decide) ?_
      rw [ab_set_set]
      refine aw_iinc (v := nI (i + 1)) (L' := [some (.ref 56), some (.int x), some (.int y), some (.int v), some (.int (nI (i + 1)))]) d_M_person_62 rfl (nI_1 _) ⟨by decide, rfl⟩ rfl ?_
      refine aw_goto (tgt := 37) d_M_person_65 (by decide) ?_
      refine ih (i + 1) _ (by omega) (fun k hk => ?_) (fun k hk hk2 => ?_)
      · by_cases e : k = i
        · subst e; rw [pk_us]
        · rw [pk_un e]; exact h1 k (by omega)
      · rw [pk_un (by omega)]; exact h2 k (by omega) hk2
theorem y_person {V : VV} {m c : Nat} {h : ab_H} {S : SS} (hM : PM V c h S) (ok : S_ok S) (hc : c < 900)  (x y z : Int32) : CM V Y_M_person [.int x, .int y, .int z] m c h (fun r S2 => (r, S2) = sp_person S x y z) := by
  obtain ⟨⟨tab, la, at_, wr, ve, fs, ft, m0, m1, m2, m3, m4, m5, m6⟩, ⟨n0, n1, n2, n3, n4, n5, n6, n7, n8, n9⟩, q1, q2, q3, q4⟩ := id hM
  have hn6 : N_n (S_N S) ≤ 6 := ok.1.1
  have hnT := nI_toInt (show N_n (S_N S) < 2 ^ 31 by omega)
  refine ab_C.of (L := [some (.ref 56), some (.int x), some (.int y), some (.int z), none]) rfl rfl (Nat.le_of_ble_eq_true rfl) (fun l => ?_)
  obtain ⟨gx, hx, ax⟩ := id n0
  obtain ⟨gy, hy, ay⟩ := id n1
  obtain ⟨gm, hm, am⟩ := id n2
  obtain ⟨gh, hh, ah⟩ := id n3
  obtain ⟨gw, hw, aw⟩ := id n5
  obtain ⟨ga, ha, aa⟩ := id n6
  have hma := ok.1.2.2.2.2.2.2.2.1
  refine aw_iload_n d_M_person_0 rfl ?_
  refine aw_iload_n d_M_person_1 rfl ?_
  refine aw_s0i d_M_person_2 k_M_127 ok_M_isAt rfl ⟨rfl, rfl⟩ (c_M_isAt x y) rfl rfl (Nat.le_of_ble_eq_true rfl) ?_
  refine aw_if_eq (tgt := 20) d_M_person_5 (by decide) (fun c5 => ?_) (fun c5 => ?_)
  · refine aw_iconst (v := (-1)) d_M_person_20 (by decide) ?_
    refine aw_ireturn d_M_person_21 rfl rfl ?_
    refine ⟨_, S, rfl, ?_, ⟨⟨tab, la, at_, wr, ve, fs, ft, m0, by omega, by omega, m3, m4, m5, m6⟩, ⟨n0, n1, n2, n3, n4, n5, n6, n7, n8, n9⟩, q1, q2, q3, q4⟩, rfl, fun k _ => rfl⟩
    unfold sp_person
    rw [if_neg]
    intro q
    first
      | (have hz := of_decide_eq_false (ab_bl_0.mp c17)
         rw [i64_toInt, tl0, tl63] at hz
         exact hz q.2.2)
      | exact of_decide_eq_false (ab_bl_0.mp c5) ⟨q.1, q.2.1⟩
  · refine aw_iload_n d_M_person_8 rfl ?_
    refine aw_i2l d_M_person_9 ?_
    refine aw_lconst (v := lN 0) d_M_person_10 (by decide) ?_
    refine aw_ldc2 (v := lN 63) d_M_person_11 k_M_131 ?_
    refine aw_s0i d_M_person_14 k_M_121 ok_M_in rfl ⟨rfl, rfl⟩ (c_in z.toInt64 (lN 0) (lN 63)) rfl rfl (Nat.le_of_ble_eq_true rfl) ?_
    refine aw_if_ne (tgt := 22) d_M_person_17 (by decide) (fun c17 => ?_) (fun c17 => ?_)
    · refine aw_aload_n d_M_person_22 rfl ?_
      refine aw_get (k := 0) d_M_person_23 cl_Model k_M_118 (by decide) m0 rfl ?_
      refine aw_bipush (v := nI 6) d_M_person_26 (by decide) ?_
      refine aw_icmp_ne (tgt := 34) d_M_person_28 (by decide) (fun c28 => ?_) (fun c28 => ?_)
      · have hxy := of_decide_eq_true (ab_bl_1.mp c5)
        have hz := of_decide_eq_true (ab_bl_1.mp c17)
        rw [i64_toInt, tl0, tl63] at hz
        obtain ⟨u, hu, rfl⟩ := irC (n := 19) hxy.1
        obtain ⟨v, hv, rfl⟩ := irC (n := 19) hxy.2
        obtain ⟨w, hw9, rfl⟩ := irC (x := z) (n := 63) hz
        have hn : N_n (S_N S) < 6 := by rw [fa_eq, hnT] at c28; simp only [ti6] at c28; omega
        refine aw_iconst (v := nI 0) d_M_person_34 (by decide) ?_
        refine aw_istore (L' := [some (.ref 56), some (.int (nI u)), some (.int (nI v)), some (.int (nI w)), some (.int (nI 0))]) d_M_person_35 ⟨by decide, rfl⟩ rfl ?_
        have lp := l_Mperson (X := none) (l := l) (Q := fun r m2 h2 => ∃ (v9 : Int32) (S2 : SS), r = some (.int v9) ∧ (v9, S2) = sp_person S (nI u) (nI v) (nI w) ∧ PM V (c + 1) h2 S2 ∧ m2 = m ∧ ∀ k, (k < 56 ∨ 88 < k) → h2 k = h k) (m := m) (us := (0, 0)) (h := h) m0 hn (x := nI u) (y := nI v) (v := nI w) (f := N_ma (S_N S)) hma (fun g e1 => ?_) (N_n (S_N S)) 0 ga (by omega) (fun k hk => absurd hk (by omega)) (fun k _ hk => aa k hk)
        · rw [ab_set_eq ha] at lp
          exact lp
        · have m0' : ab_set h 63 (.inl (6, g)) 56 = _ := m0
          refine aw_aload_n d_M_person_68 rfl ?_
          refine aw_get (k := 1) d_M_person_69 cl_Model k_M_7 (by decide) m0' rfl ?_
          refine aw_aload_n d_M_person_72 rfl ?_
          refine aw_get (k := 0) d_M_person_73 cl_Model k_M_118 (by decide) m0' rfl ?_
          refine aw_iload_n d_M_person_76 rfl ?_
          refine aw_iastoreN d_M_person_77 hx (by omega) (by decide) ?_
          refine aw_aload_n d_M_person_78 rfl ?_
          refine aw_get (k := 2) d_M_person_79 cl_Model k_M_13 (by decide) m0' rfl ?_
          refine aw_aload_n d_M_person_82 rfl ?_
          refine aw_get (k := 0) d_M_person_83 cl_Model k_M_118 (by decide) m0' rfl ?_
          refine aw_iload_n d_M_person_86 rfl ?_
          refine aw_iastoreN d_M_person_87 hy (by omega) (by decide) ?_
          refine aw_aload_n d_M_person_88 rfl ?_
          refine aw_get (k := 3) d_M_person_89 cl_Model k_M_16 (by decide) m0' rfl ?_
          refine aw_aload_n d_M_person_92 rfl ?_
          refine aw_get (k := 0) d_M_person_93 cl_Model k_M_118 (by decide) m0' rfl ?_
          refine aw_iload_n d_M_person_96 rfl ?_
          refine aw_iastoreN d_M_person_97 hm (by omega) (by decide) ?_
          refine aw_aload_n d_M_person_98 rfl ?_
          refine aw_get (k := 4) d_M_person_99 cl_Model k_M_19 (by decide) m0' rfl ?_
          refine aw_aload_n d_M_person_102 rfl ?_
          refine aw_get (k := 0) d_M_person_103 cl_Model k_M_118 (by decide) m0' rfl ?_
          refine aw_aload_n d_M_person_106 rfl ?_
          refine aw_get (k := 0) d_M_person_107 cl_Model k_M_118 (by decide) m0' rfl ?_
          refine aw_iastoreN d_M_person_110 hh (by omega) (by decide) ?_
          refine aw_aload_n d_M_person_111 rfl ?_
          refine aw_get (k := 6) d_M_person_112 cl_Model k_M_25 (by decide) m0' rfl ?_
          refine aw_aload_n d_M_person_115 rfl ?_
          refine aw_get (k := 0) d_M_person_116 cl_Model k_M_118 (by decide) m0' rfl ?_
          refine aw_iconst (v := nI 0) d_M_person_119 (by decide) ?_
          refine aw_iastoreN d_M_person_120 hw (by omega) (by decide) ?_
          refine aw_aload_n d_M_person_121 rfl ?_
          refine aw_dup d_M_person_122 rfl ?_
          refine aw_get (k := 0) d_M_person_123 cl_Model k_M_118 (by decide) m0' rfl ?_
          refine aw_iconst (v := nI 1) d_M_person_126 (by decide) ?_
          refine aw_iadd d_M_person_127 ?_
          rw [nI_add]
          refine aw_put (k := 0) (fs' := [.int (nI (N_n (S_N S) + 1)), .ref 57, .ref 58, .ref 59, .ref 60, .ref 61, .ref 62, .ref 63, .int (nI (N_ns (S_N S))), .ref 64, .ref 65, .int (nI (N_ra (S_N S))), .int (nI (N_se (S_N S))), .int (N_me (S_N S)), .int (N_mi (S_N S)), .ref 66, .ref 67, .int tab, .ref 68, .ref 69, .ref 70, .ref 71, .ref 72, .ref 73, .ref 74, .int (nI ve), .int la, .ref 75, .ref 76, .int (nI (S_tl S)), .int at_, .int wr, .ref 77, .ref 78, .int (nI (N_fe (S_N S))), .ref 79, .ref 80, .ref 81, .ref 82, .ref 83, .ref 84, .int (ab_bl (S_K S).isSome), .ref 85, .ref 86, .ref 87, .ref 88]) d_M_person_128 cl_Model k_M_118 (by decide) rfl ⟨rfl, rfl⟩ m0' (Nat.le_of_ble_eq_true rfl) rfl ?_
          refine aw_aload_n d_M_person_131 rfl ?_
          refine aw_dup d_M_person_132 rfl ?_
          refine aw_get (k := 25) d_M_person_133 cl_Model k_M_133 (by decide) rfl rfl ?_
          refine aw_iconst (v := nI 1) d_M_person_136 (by decide) ?_
          refine aw_iadd d_M_person_137 ?_
          rw [nI_add]
          refine aw_put (k := 25) (fs' := [.int (nI (N_n (S_N S) + 1)), .ref 57, .ref 58, .ref 59, .ref 60, .ref 61, .ref 62, .ref 63, .int (nI (N_ns (S_N S))), .ref 64, .ref 65, .int (nI (N_ra (S_N S))), .int (nI (N_se (S_N S))), .int (N_me (S_N S)), .int (N_mi (S_N S)), .ref 66, .ref 67, .int tab, .ref 68, .ref 69, .ref 70, .ref 71, .ref 72, .ref 73, .ref 74, .int (nI (ve + 1)), .int la, .ref 75, .ref 76, .int (nI (S_tl S)), .int at_, .int wr, .ref 77, .ref 78, .int (nI (N_fe (S_N S))), .ref 79, .ref 80, .ref 81, .ref 82, .ref 83, .ref 84, .int (ab_bl (S_K S).isSome), .ref 85, .ref 86, .ref 87, .ref 88]) d_M_person_138 cl_Model k_M_133 (by decide) rfl ⟨rfl, rfl⟩ rfl (Nat.le_of_ble_eq_true rfl) rfl ?_
          refine aw_aload_n d_M_person_141 rfl ?_
          refine aw_get (k := 7) d_M_person_142 cl_Model k_M_28 (by decide) rfl rfl ?_
          refine aw_aload_n d_M_person_145 rfl ?_
          refine aw_get (k := 0) d_M_person_146 cl_Model k_M_118 (by decide) rfl rfl ?_
          refine aw_iconst (v := nI 1) d_M_person_149 (by decide) ?_
          refine aw_isub d_M_person_150 ?_
          rw [show nI (N_n (S_N S) + 1) - nI 1 = nI (N_n (S_N S)) from nI_pred _]
          refine aw_iconst (v := nI 1) d_M_person_151 (by decide) ?_
          refine aw_aload_n d_M_person_152 rfl ?_
          refine aw_get (k := 0) d_M_person_153 cl_Model k_M_118 (by decide) rfl rfl ?_
          refine aw_ishl d_M_person_156 ?_
          refine aw_iconst (v := nI 1) d_M_person_157 (by decide) ?_
          refine aw_isub d_M_person_158 ?_
          rw [all_n (N_n (S_N S) + 1) (by omega)]
          refine aw_iastoreN d_M_person_159 rfl (by omega) (by decide) ?_
          refine aw_aload_n d_M_person_160 rfl ?_
          refine aw_get (k := 0) d_M_person_161 cl_Model k_M_118 (by decide) rfl rfl ?_
          refine aw_iconst (v := nI 1) d_M_person_164 (by decide) ?_
          refine aw_isub d_M_person_165 ?_
          rw [show nI (N_n (S_N S) + 1) - nI 1 = nI (N_n (S_N S)) from nI_pred _]
          refine aw_ireturn d_M_person_166 rfl rfl ?_
          refine ⟨_, S_N_ S (N_n_ (N_x_ (N_y_ (N_mk_ (N_ma_ (S_N S) (fun k => if k < N_n (S_N S) then N_ma (S_N S) k + 2 ^ N_n (S_N S) else if k = N_n (S_N S) then 2 ^ (N_n (S_N S) + 1) - 1 else N_ma (S_N S) k)) (ud (N_mk (S_N S)) (N_n (S_N S)) w)) (ud (N_y (S_N S)) (N_n (S_N S)) v)) (ud (N_x (S_N S)) (N_n (S_N S)) u)) (N_n (S_N S) + 1)), rfl, ?_, ⟨⟨tab, la, at_, wr, ve + 1, fs, ft, rfl, by omega, by omega, m3, m4, m5, la_up m6⟩, ⟨rw_.up2 rfl ax, rw_.up2 rfl ay, rw_.up2 rfl am, ⟨_, rfl, fun k hk => ?_⟩, n4, ⟨_, rfl, fun k hk => ?_⟩, ⟨_, rfl, fun k hk => ?_⟩, n7, n8, n9⟩, q1, q2, q3, q4⟩, rfl, (fun k hk => by rw [ab_set_ne (by omega), ab_set_ne (by omega), ab_set_ne (by omega), ab_set_ne (by omega), ab_set_ne (by omega), ab_set_ne (by omega), ab_set_ne (by omega), ab_set_ne (by omega), ab_set_ne (by omega)])⟩
          · unfold sp_person
            rw [if_pos ⟨hxy.1, hxy.2, hz⟩, if_neg (by omega), cl_nI (show u < 2 ^ 31 by omega), cl_nI (show v < 2 ^ 31 by omega), cl_nI (show w < 2 ^ 31 by omega)]
          · have hk : k < N_n (S_N S) + 1 := hk
            show upd gh (N_n (S_N S)) (nI (N_n (S_N S))) k = nI (N_t (S_N S) k)
            by_cases e : k = N_n (S_N S)
            · subst e; rw [pk_us, ok.1.2.2.1 _ (Nat.le_refl _)]
            · rw [pk_un e]; exact ah k (by omega)
          · have hk : k < N_n (S_N S) + 1 := hk
            show upd gw (N_n (S_N S)) (nI 0) k = nI (N_w (S_N S) / 2 ^ k % 2)
            by_cases e : k = N_n (S_N S)
            · subst e; rw [pk_us, Nat.div_eq_of_lt ok.1.2.2.2.2.1]
            · rw [pk_un e]; exact aw k (by omega)
          · have hk : k < N_n (S_N S) + 1 := hk
            show upd g (N_n (S_N S)) _ k = nI (if k < N_n (S_N S) then _ else if k = N_n (S_N S) then _ else _)
            by_cases e : k = N_n (S_N S)
            · subst e; rw [pk_us, if_neg (Nat.lt_irrefl _), if_pos rfl]
            · rw [pk_un e, if_pos (by omega)]; exact e1 k (by omega)
      · refine aw_bipush (v := (-3)) d_M_person_31 (by decide) ?_
        refine aw_ireturn d_M_person_33 rfl rfl ?_
        refine ⟨_, S, rfl, ?_, ⟨⟨tab, la, at_, wr, ve, fs, ft, m0, by omega, by omega, m3, m4, m5, m6⟩, ⟨n0, n1, n2, n3, n4, n5, n6, n7, n8, n9⟩, q1, q2, q3, q4⟩, rfl, fun k _ => rfl⟩
        have hz := of_decide_eq_true (ab_bl_1.mp c17)
        rw [i64_toInt, tl0, tl63] at hz
        have hxy := of_decide_eq_true (ab_bl_1.mp c5)
        unfold sp_person
        rw [if_pos ⟨hxy.1, hxy.2, hz⟩, if_pos (by rw [fa_eq, hnT] at c28; simp only [ti6] at c28; omega)]
    · refine aw_iconst (v := (-1)) d_M_person_20 (by decide) ?_
      refine aw_ireturn d_M_person_21 rfl rfl ?_
      refine ⟨_, S, rfl, ?_, ⟨⟨tab, la, at_, wr, ve, fs, ft, m0, by omega, by omega, m3, m4, m5, m6⟩, ⟨n0, n1, n2, n3, n4, n5, n6, n7, n8, n9⟩, q1, q2, q3, q4⟩, rfl, fun k _ => rfl⟩
      unfold sp_person
      rw [if_neg]
      intro q
      first
        | (have hz := of_decide_eq_false (ab_bl_0.mp c17)
           rw [i64_toInt, tl0, tl63] at hz
           exact hz q.2.2)
        | exact of_decide_eq_false (ab_bl_0.mp c5) ⟨q.1, q.2.1⟩
