theorem aw_gen {Y : ab_Y} {X : ab_X} {l : Launch} {Q : Option Value → Nat → ab_H → Prop} {pc : Nat} {L : List (Option Value)} {st : List Value} {m : Nat} {h : ab_H} {us : Nat × Nat} (P : ab_H → Prop) (hp : P h) (k : ∀ h2, P h2 → ab_W Y X l Q pc L st m h2 us) : ab_W Y X l Q pc L st m h us := k h hp
/-- the cells of what is known of slips, in a heap that is h elsewhere -/
def SL (q : Nat) (h hh : ab_H) (pe ki kn : Nat) (gs gt gf gw gq : Nat → Int32) : Prop := hh q = oL q pe ki kn ∧ hh (q + 1) = .inl (45, gs) ∧ hh (q + 2) = .inl (45, gt) ∧ hh (q + 3) = .inl (720, gf) ∧ hh (q + 4) = .inl (720, gw) ∧ hh 55 = .inl (720, gq) ∧ 88 < q ∧ ∀ k, (k < q ∨ q + 4 < k) → k ≠ 55 → hh k = h k
theorem SL.o {q : Nat} {h hh : ab_H} {pe ki kn : Nat} {gs gt gf gw gq : Nat → Int32} (s : SL q h hh pe ki kn gs gt gf gw gq) (pe2 kn2 : Nat) : SL q h (ab_set hh q (oL q pe2 ki kn2)) pe2 ki kn2 gs gt gf gw gq := by
  obtain ⟨o0, o1, o2, o3, o4, o5, o6, o7⟩ := s
  exact ⟨ab_set_self _ _ _, (ab_set_ne (by omega)).trans o1, (ab_set_ne (by omega)).trans o2, (ab_set_ne (by omega)).trans o3, (ab_set_ne (by omega)).trans o4, (ab_set_ne (by omega)).trans o5, o6, fun k h1 h2 => (ab_set_ne (by omega)).trans (o7 k h1 h2)⟩
theorem SL.s1 {q : Nat} {h hh : ab_H} {pe ki kn : Nat} {gs gt gf gw gq : Nat → Int32} (s : SL q h hh pe ki kn gs gt gf gw gq) (g : Nat → Int32) : SL q h (ab_set hh (q + 1) (.inl (45, g))) pe ki kn g gt gf gw gq := by
  obtain ⟨o0, o1, o2, o3, o4, o5, o6, o7⟩ := s
  exact ⟨(ab_set_ne (by omega)).trans o0, ab_set_self _ _ _, (ab_set_ne (by omega)).trans o2, (ab_set_ne (by omega)).trans o3, (ab_set_ne (by omega)).trans o4, (ab_set_ne (by omega)).trans o5, o6, fun k h1 h2 => (ab_set_ne (by omega)).trans (o7 k h1 h2)⟩
theorem SL.s2 {q : Nat} {h hh : ab_H} {pe ki kn : Nat} {gs gt gf gw gq : Nat → Int32} (s : SL q h hh pe ki kn gs gt gf gw gq) (g : Nat → Int32) : SL q h (ab_set hh (q + 2) (.inl (45, g))) pe ki kn gs g gf gw gq := by
  obtain ⟨o0, o1, o2, o3, o4, o5, o6, o7⟩ := s
  exact ⟨(ab_set_ne (by omega)).trans o0, (ab_set_ne (by omega)).trans o1, ab_set_self _ _ _, (ab_set_ne (by omega)).trans o3, (ab_set_ne (by omega)).trans o4, (ab_set_ne (by omega)).trans o5, o6, fun k h1 h2 => (ab_set_ne (by omega)).trans (o7 k h1 h2)⟩
theorem SL.s3 {q : Nat} {h hh : ab_H} {pe ki kn : Nat} {gs gt gf gw gq : Nat → Int32} (s : SL q h hh pe ki kn gs gt gf gw gq) (g : Nat → Int32) : SL q h (ab_set hh (q + 3) (.inl (720, g))) pe ki kn gs gt g gw gq := by
  obtain ⟨o0, o1, o2, o3, o4, o5, o6, o7⟩ := s
  exact ⟨(ab_set_ne (by omega)).trans o0, (ab_set_ne (by omega)).trans o1, (ab_set_ne (by omega)).trans o2, ab_set_self _ _ _, (ab_set_ne (by omega)).trans o4, (ab_set_ne (by omega)).trans o5, o6, fun k h1 h2 => (ab_set_ne (by omega)).trans (o7 k h1 h2)⟩
theorem SL.s4 {q : Nat} {h hh : ab_H} {pe ki kn : Nat} {gs gt gf gw gq : Nat → Int32} (s : SL q h hh pe ki kn gs gt gf gw gq) (g : Nat → Int32) : SL q h (ab_set hh (q + 4) (.inl (720, g))) pe ki kn gs gt gf g gq := by
  obtain ⟨o0, o1, o2, o3, o4, o5, o6, o7⟩ := s
  exact ⟨(ab_set_ne (by omega)).trans o0, (ab_set_ne (by omega)).trans o1, (ab_set_ne (by omega)).trans o2, (ab_set_ne (by omega)).trans o3, ab_set_self _ _ _, (ab_set_ne (by omega)).trans o5, o6, fun k h1 h2 => (ab_set_ne (by omega)).trans (o7 k h1 h2)⟩
theorem SL.sq {q : Nat} {h hh : ab_H} {pe ki kn : Nat} {gs gt gf gw gq : Nat → Int32} (s : SL q h hh pe ki kn gs gt gf gw gq) (g : Nat → Int32) : SL q h (ab_set hh 55 (.inl (720, g))) pe ki kn gs gt gf gw g := by
  obtain ⟨o0, o1, o2, o3, o4, o5, o6, o7⟩ := s
  exact ⟨(ab_set_ne (by omega)).trans o0, (ab_set_ne (by omega)).trans o1, (ab_set_ne (by omega)).trans o2, (ab_set_ne (by omega)).trans o3, (ab_set_ne (by omega)).trans o4, ab_set_self _ _ _, o6, fun k h1 h2 => (ab_set_ne h2).trans (o7 k h1 h2)⟩
/-- slips below b are gathered -/
def LSl (n K b : Nat) (gs gt : Nat → Int32) : Prop := ∀ s, s < b → isl n K s = true → gs (fb_ct (isl n K) s) = nI s ∧ gt (fb_ct (isl n K) s) = nI (pk (tgs s))
theorem ct_skip {P : Nat → Bool} {a : Nat} : ∀ k, (∀ s, a ≤ s → s < a + k → P s = false) → fb_ct P (a + k) = fb_ct P a
  | 0, _ => rfl
  | k + 1, h => by
    rw [← Nat.add_assoc, fb_ct_succ, ct_skip k (fun s h1 h2 => h s h1 (by omega)), h (a + k) (by omega) (by omega)]
    rfl
theorem LSl.skip {n K a b : Nat} {gs gt : Nat → Int32} (h : LSl n K a gs gt) (hab : a ≤ b) (hno : ∀ s, a ≤ s → s < b → isl n K s = false) : LSl n K b gs gt ∧ fb_ct (isl n K) b = fb_ct (isl n K) a := by
  refine ⟨fun s hs hi => ?_, ?_⟩
  · by_cases q : s < a
    · exact h s q hi
    · rw [hno s (by omega) hs] at hi; cases hi
  · have := ct_skip (P := isl n K) (a := a) (b - a) (fun s h1 h2 => hno s h1 (by omega))
    rwa [show a + (b - a) = b by omega] at this
theorem isl_no {n K s : Nat} (h : ¬ (K / 2 ^ (s / 36) % 2 = 1 ∧ s / 36 < 3 ∧ s / 6 % 6 < s % 6 ∧ s % 6 < n)) : isl n K s = false := Bool.eq_false_iff.mpr (fun z => h (isl_e.mp z))
theorem c_Slips_gather {m : Nat} {h hh : ab_H} {q n K kn : Nat} (hn : n ≤ 6) (hK : K < 8) {gs gt gf gw gq : Nat → Int32} (hs : SL q h hh n K kn gs gt gf gw gq) : ab_C Y_Slips_gather [.ref q] m hh (fun r m2 h2 => r = none ∧ m2 = m ∧ ∃ gs gt : Nat → Int32, SL q h h2 n K (fb_ct (isl n K) 108) gs gt gf gw gq ∧ LSl n K 108 gs gt) := by
  obtain ⟨o0, o1, o2, o3, o4, o5, o6, o7⟩ := id hs
  refine ab_C.of (L := [some (.ref q), none, none, none]) rfl rfl (Nat.le_of_ble_eq_true rfl) (fun l => ?_)
  have loopa : ∀ ka a (hh : ab_H) (gs gt : Nat → Int32), a + ka = 3 → SL q h hh n K (fb_ct (isl n K) (36 * a)) gs gt gf gw gq → LSl n K (36 * a) gs gt → ab_W Y_Slips_gather none l (fun r m2 h2 => r = none ∧ m2 = m ∧ ∃ gs gt : Nat → Int32, SL q h h2 n K (fb_ct (isl n K) 108) gs gt gf gw gq ∧ LSl n K 108 gs gt) 7 [some (.ref q), some (.int (nI (a))), none, none] [] m (hh) (0, 0) := by
    intro ka
    induction ka with
    | zero =>
      intro a hh gs gt ha hs ls
      have han : 3 = a := by omega
      subst han
      refine aw_iload_n d_Slips_gather_7 rfl ?_
      refine aw_iconst (v := nI 3) d_Slips_gather_8 (by decide) ?_
      refine aw_icmp_ge (tgt := 118) d_Slips_gather_9 (by decide) (fun c9 => ?_) (fun c9 => ?_)
      · refine aw_return d_Slips_gather_118 rfl ?_
        exact ⟨rfl, rfl, gs, gt, hs, ls⟩
      · exact absurd (Int32.le_refl _) c9
    | succ ka iha =>
      intro a hh gs gt ha hs ls
      refine aw_iload_n d_Slips_gather_7 rfl ?_
      refine aw_iconst (v := nI 3) d_Slips_gather_8 (by decide) ?_
      refine aw_icmp_ge (tgt := 118) d_Slips_gather_9 (by decide) (fun c9 => ?_) (fun c9 => ?_)
      · exact absurd c9 (nI_ge (by omega) (by omega))
      · refine aw_iconst (v := nI 0) d_Slips_gather_12 (by decide) ?_
        refine aw_istore_n (L' := [some (.ref q), some (.int (nI (a))), some (.int (nI 0)), none]) d_Slips_gather_13 ⟨by decide, rfl⟩ rfl ?_
        have ha3 : a < 3 := by omega
        have loopb : ∀ kb i (hh : ab_H) (gs gt : Nat → Int32), i + kb = n → SL q h hh n K (fb_ct (isl n K) (36 * a + 6 * i)) gs gt gf gw gq → LSl n K (36 * a + 6 * i) gs gt → ab_W Y_Slips_gather none l (fun r m2 h2 => r = none ∧ m2 = m ∧ ∃ gs gt : Nat → Int32, SL q h h2 n K (fb_ct (isl n K) 108) gs gt gf gw gq ∧ LSl n K 108 gs gt) 14 [some (.ref q), some (.int (nI a)), some (.int (nI (i))), none] [] m (hh) (0, 0) := by
          intro kb
          induction kb with
          | zero =>
            intro i hh gs gt hi hs ls
            have hin : n = i := by omega
            subst hin
            obtain ⟨o0, o1, o2, o3, o4, o5, o6, o7⟩ := id hs
            refine aw_iload_n d_Slips_gather_14 rfl ?_
            refine aw_aload_n d_Slips_gather_15 rfl ?_
            refine aw_get (k := 0) d_Slips_gather_16 cl_Slips k_Slips_50 (by decide) o0 rfl ?_
            refine aw_icmp_ge (tgt := 112) d_Slips_gather_19 (by decide) (fun c19 => ?_) (fun c19 => ?_)
            · refine aw_iinc (v := nI (a + 1)) (L' := [some (.ref q), some (.int (nI (a + 1))), some (.int (nI (n))), none]) d_Slips_gather_112 rfl (nI_1 _) ⟨by decide, rfl⟩ rfl ?_
              refine aw_goto (tgt := 7) d_Slips_gather_115 (by decide) ?_
              have sk := ls.skip (b := 36 * (a + 1)) (by omega) (fun s h1 h2 => isl_no (fun z => by omega))
              rw [← sk.2] at hs
              exact aw_drop 2 (iha (a + 1) hh gs gt (by omega) hs sk.1)
            · exact absurd (Int32.le_refl _) c19
          | succ kb ihb =>
            intro i hh gs gt hi hs ls
            obtain ⟨o0, o1, o2, o3, o4, o5, o6, o7⟩ := id hs
            refine aw_iload_n d_Slips_gather_14 rfl ?_
            refine aw_aload_n d_Slips_gather_15 rfl ?_
            refine aw_get (k := 0) d_Slips_gather_16 cl_Slips k_Slips_50 (by decide) o0 rfl ?_
            refine aw_icmp_ge (tgt := 112) d_Slips_gather_19 (by decide) (fun c19 => ?_) (fun c19 => ?_)
            · exact absurd c19 (nI_ge (by omega) (by omega))
            · refine aw_aload_n d_Slips_gather_22 rfl ?_
              refine aw_get (k := 1) d_Slips_gather_23 cl_Slips k_Slips_24 (by decide) o0 rfl ?_
              refine aw_iload_n d_Slips_gather_26 rfl ?_
              refine aw_ishr d_Slips_gather_27 ?_
              refine aw_iconst (v := nI 1) d_Slips_gather_28 (by decide) ?_
              refine aw_iand d_Slips_gather_29 ?_
              rw [b_at (by omega) (by omega)]
              refine aw_if_eq (tgt := 112) d_Slips_gather_30 (by decide) (fun c30 => ?_) (fun c30 => ?_)
              · refine aw_iinc (v := nI (a + 1)) (L' := [some (.ref q), some (.int (nI (a + 1))), some (.int (nI (i))), none]) d_Slips_gather_112 rfl (nI_1 _) ⟨by decide, rfl⟩ rfl ?_
                refine aw_goto (tgt := 7) d_Slips_gather_115 (by decide) ?_
                have sk := ls.skip (b := 36 * (a + 1)) (by omega) (fun s h1 h2 => isl_no (fun z => by
                  have e : s / 36 = a := by omega
                  rw [e] at z
                  exact b_z.mp c30 z.1))
                rw [← sk.2] at hs
                exact aw_drop 2 (iha (a + 1) hh gs gt (by omega) hs sk.1)
              · refine aw_iload_n d_Slips_gather_33 rfl ?_
                refine aw_iconst (v := nI 1) d_Slips_gather_34 (by decide) ?_
                refine aw_iadd d_Slips_gather_35 ?_
                rw [nI_add]
                have ka : K / 2 ^ a % 2 = 1 := b_nz.mp c30
                refine aw_istore_n (L' := [some (.ref q), some (.int (nI a)), some (.int (nI (i))), some (.int (nI (i + 1)))]) d_Slips_gather_36 ⟨by decide, rfl⟩ rfl ?_
                have loopc : ∀ kc j (hh : ab_H) (gs gt : Nat → Int32), j + kc = n → i < j → SL q h hh n K (fb_ct (isl n K) (36 * a + 6 * i + j)) gs gt gf gw gq → LSl n K (36 * a + 6 * i + j) gs gt → ab_W Y_Slips_gather none l (fun r m2 h2 => r = none ∧ m2 = m ∧ ∃ gs gt : Nat → Int32, SL q h h2 n K (fb_ct (isl n K) 108) gs gt gf gw gq ∧ LSl n K 108 gs gt) 37 [some (.ref q), some (.int (nI a)), some (.int (nI i)), some (.int (nI (j)))] [] m (hh) (0, 0) := by
                  intro kc
                  induction kc with
                  | zero =>
                    intro j hh gs gt hj hij hs ls
                    have hjn : n = j := by omega
                    subst hjn
                    obtain ⟨o0, o1, o2, o3, o4, o5, o6, o7⟩ := id hs
                    refine aw_iload_n d_Slips_gather_37 rfl ?_
                    refine aw_aload_n d_Slips_gather_38 rfl ?_
                    refine aw_get (k := 0) d_Slips_gather_39 cl_Slips k_Slips_50 (by decide) o0 rfl ?_
                    refine aw_icmp_ge (tgt := 106) d_Slips_gather_42 (by decide) (fun c42 => ?_) (fun c42 => ?_)
                    · refine aw_iinc (v := nI (i + 1)) (L' := [some (.ref q), some (.int (nI a)), some (.int (nI (i + 1))), some (.int (nI (n)))]) d_Slips_gather_106 rfl (nI_1 _) ⟨by decide, rfl⟩ rfl ?_
                      refine aw_goto (tgt := 14) d_Slips_gather_109 (by decide) ?_
                      have sk := ls.skip (b := 36 * a + 6 * (i + 1)) (by omega) (fun s h1 h2 => isl_no (fun z => by omega))
                      rw [← sk.2] at hs
                      exact aw_drop 3 (ihb (i + 1) hh gs gt (by omega) hs sk.1)
                    · exact absurd (Int32.le_refl _) c42
                  | succ kc ihc =>
                    intro j hh gs gt hj hij hs ls
                    obtain ⟨o0, o1, o2, o3, o4, o5, o6, o7⟩ := id hs
                    refine aw_iload_n d_Slips_gather_37 rfl ?_
                    refine aw_aload_n d_Slips_gather_38 rfl ?_
                    refine aw_get (k := 0) d_Slips_gather_39 cl_Slips k_Slips_50 (by decide) o0 rfl ?_
                    refine aw_icmp_ge (tgt := 106) d_Slips_gather_42 (by decide) (fun c42 => ?_) (fun c42 => ?_)
                    · exact absurd c42 (nI_ge (by omega) (by omega))
                    · have yes : isl n K (36 * a + 6 * i + j) = true := isl_mk hn ka ha3 hij (by omega)
                      have lt45 : (fb_ct (isl n K) (36 * a + 6 * i + j)) < 45 := Nat.lt_of_lt_of_le (ct_lt yes (isl_s yes).1) (isl_le hn hK)
                      refine aw_aload_n d_Slips_gather_45 rfl ?_
                      refine aw_get (k := 2) d_Slips_gather_46 cl_Slips k_Slips_64 (by decide) o0 rfl ?_
                      refine aw_bipush (v := nI 45) d_Slips_gather_49 (by decide) ?_
                      refine aw_icmp_ge (tgt := 106) d_Slips_gather_51 (by decide) (fun c51 => ?_) (fun c51 => ?_)
                      · exact absurd c51 (nI_ge (by omega) (by omega))
                      · refine aw_aload_n d_Slips_gather_54 rfl ?_
                        refine aw_get (k := 3) d_Slips_gather_55 cl_Slips k_Slips_9 (by decide) o0 rfl ?_
                        refine aw_aload_n d_Slips_gather_58 rfl ?_
                        refine aw_get (k := 2) d_Slips_gather_59 cl_Slips k_Slips_64 (by decide) o0 rfl ?_
                        refine aw_iload_n d_Slips_gather_62 rfl ?_
                        refine aw_iload_n d_Slips_gather_63 rfl ?_
                        refine aw_iload_n d_Slips_gather_64 rfl ?_
                        refine aw_s0i d_Slips_gather_65 k_Slips_67 ok_Slips_number rfl ⟨rfl, rfl⟩ (c_Slips_number (nI a) (nI i) (nI (j))) rfl rfl (Nat.le_of_ble_eq_true rfl) ?_
                        rw [pk_mul, pk_mul, nI_add, nI_add]
                        refine aw_iastoreN d_Slips_gather_68 o1 lt45 (by decide) ?_
                        refine aw_gen (fun z => SL q h z n K ((fb_ct (isl n K) (36 * a + 6 * i + j))) (upd gs (fb_ct (isl n K) (36 * a + 6 * i + j)) (nI (36 * a + 6 * i + j))) (gt) gf gw gq) (hs.s1 _) (fun hh hs => ?_)
                        obtain ⟨o0, o1, o2, o3, o4, o5, o6, o7⟩ := id hs
                        refine aw_aload_n d_Slips_gather_69 rfl ?_
                        refine aw_get (k := 4) d_Slips_gather_70 cl_Slips k_Slips_15 (by decide) o0 rfl ?_
                        refine aw_aload_n d_Slips_gather_73 rfl ?_
                        refine aw_get (k := 2) d_Slips_gather_74 cl_Slips k_Slips_64 (by decide) o0 rfl ?_
                        refine aw_aload_n d_Slips_gather_77 rfl ?_
                        refine aw_get (k := 3) d_Slips_gather_78 cl_Slips k_Slips_9 (by decide) o0 rfl ?_
                        refine aw_aload_n d_Slips_gather_81 rfl ?_
                        refine aw_get (k := 2) d_Slips_gather_82 cl_Slips k_Slips_64 (by decide) o0 rfl ?_
                        refine aw_ialoadN d_Slips_gather_85 o1 lt45 (by decide) ?_
                        rw [pk_us]
                        refine aw_s0i d_Slips_gather_86 k_Slips_70 ok_Slips_targetsOf rfl ⟨rfl, rfl⟩ (c_targetsOf hn (isl_s yes).2) rfl rfl (Nat.le_of_ble_eq_true rfl) ?_
                        refine aw_iastoreN d_Slips_gather_89 o2 lt45 (by decide) ?_
                        refine aw_gen (fun z => SL q h z n K ((fb_ct (isl n K) (36 * a + 6 * i + j))) (upd gs (fb_ct (isl n K) (36 * a + 6 * i + j)) (nI (36 * a + 6 * i + j))) (upd gt (fb_ct (isl n K) (36 * a + 6 * i + j)) (nI (pk (tgs (36 * a + 6 * i + j))))) gf gw gq) (hs.s2 _) (fun hh hs => ?_)
                        obtain ⟨o0, o1, o2, o3, o4, o5, o6, o7⟩ := id hs
                        refine aw_aload_n d_Slips_gather_90 rfl ?_
                        refine aw_dup d_Slips_gather_91 rfl ?_
                        refine aw_get (k := 2) d_Slips_gather_92 cl_Slips k_Slips_64 (by decide) o0 rfl ?_
                        refine aw_iconst (v := nI 1) d_Slips_gather_95 (by decide) ?_
                        refine aw_iadd d_Slips_gather_96 ?_
                        rw [nI_add]
                        refine aw_put (k := 2) (fs' := [.int (nI n), .int (nI K), .int (nI ((fb_ct (isl n K) (36 * a + 6 * i + j)) + 1)), .ref (q + 1), .ref (q + 2), .ref (q + 3), .ref (q + 4)]) d_Slips_gather_97 cl_Slips k_Slips_64 (by decide) rfl ⟨rfl, rfl⟩ o0 (Nat.le_of_ble_eq_true rfl) rfl ?_
                        refine aw_gen (fun z => SL q h z n K ((fb_ct (isl n K) (36 * a + 6 * i + j)) + 1) (upd gs (fb_ct (isl n K) (36 * a + 6 * i + j)) (nI (36 * a + 6 * i + j))) (upd gt (fb_ct (isl n K) (36 * a + 6 * i + j)) (nI (pk (tgs (36 * a + 6 * i + j))))) gf gw gq) (hs.o _ _) (fun hh hs => ?_)
                        obtain ⟨o0, o1, o2, o3, o4, o5, o6, o7⟩ := id hs
                        refine aw_iinc (v := nI ((j) + 1)) (L' := [some (.ref q), some (.int (nI a)), some (.int (nI i)), some (.int (nI ((j) + 1)))]) d_Slips_gather_100 rfl (nI_1 _) ⟨by decide, rfl⟩ rfl ?_
                        refine aw_goto (tgt := 37) d_Slips_gather_103 (by decide) ?_
                        have e : fb_ct (isl n K) (36 * a + 6 * i + (j + 1)) = (fb_ct (isl n K) (36 * a + 6 * i + j)) + 1 := by
                          rw [show 36 * a + 6 * i + (j + 1) = (36 * a + 6 * i + j) + 1 by omega, fb_ct_succ, yes]; rfl
                        refine ihc (j + 1) hh _ _ (by omega) (by omega) (by rw [e]; exact hs) (fun s hs2 hi => ?_)
                        by_cases z : s = 36 * a + 6 * i + j
                        · subst z; rw [pk_us, pk_us]; exact ⟨rfl, rfl⟩
                        · have hne := ct_inj (P := isl n K) (a := s) (b := 36 * a + 6 * i + j) hi yes
                          rw [pk_un (fun w => z (hne w)), pk_un (fun w => z (hne w))]
                          exact ls s (by omega) hi
                have sk := ls.skip (b := 36 * a + 6 * i + (i + 1)) (by omega) (fun s h1 h2 => isl_no (fun z => by omega))
                rw [← sk.2] at hs
                exact loopc (n - (i + 1)) (i + 1) hh gs gt (by omega) (by omega) hs sk.1
        exact loopb n 0 hh gs gt (by omega) hs ls
  refine aw_aload_n d_Slips_gather_0 rfl ?_
  refine aw_iconst (v := nI 0) d_Slips_gather_1 (by decide) ?_
  refine aw_put (k := 2) (fs' := [.int (nI n), .int (nI K), .int (nI 0), .ref (q + 1), .ref (q + 2), .ref (q + 3), .ref (q + 4)]) d_Slips_gather_2 cl_Slips k_Slips_64 (by decide) rfl ⟨rfl, rfl⟩ o0 (Nat.le_of_ble_eq_true rfl) rfl ?_
  refine aw_iconst (v := nI 0) d_Slips_gather_5 (by decide) ?_
  refine aw_istore_n (L' := [some (.ref q), some (.int (nI 0)), none, none]) d_Slips_gather_6 ⟨by decide, rfl⟩ rfl ?_
  exact loopa 3 0 _ gs gt (by omega) (hs.o n 0) (fun s h => absurd h (Nat.not_lt_zero _))
