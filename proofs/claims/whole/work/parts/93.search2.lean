theorem c_spread {m : Nat} {h hh : ab_H} {q n K k c : Nat} (hn : n ≤ 6) (h0 : 0 < K) (hK : K < 8) {gs gt gf gw gq : Nat → Int32} (hs : SL q h hh n K (Lk n K) gs gt gf gw gq) (ls : LSl n K 108 gs gt) {qf : Nat → Nat → Nat} (bq : BQ n K k 0 c qf) (bg : BG n K k 0 c qf gf gw gq) (hkc : k < c) : ab_C Y_Slips_spread [.ref q, .int (nI (pk (qf k))), .ref 55, .int (nI c)] m hh (fun r m2 h2 => m2 = m ∧ ∃ (c2 : Nat) (qf2 : Nat → Nat → Nat) (gf2 gw2 gq2 : Nat → Int32), r = some (.int (nI c2)) ∧ SL q h h2 n K (Lk n K) gs gt gf2 gw2 gq2 ∧ BQ n K k (Lk n K) c2 qf2 ∧ BG n K k (Lk n K) c2 qf2 gf2 gw2 gq2 ∧ k < c2) := by
  obtain ⟨u, ek⟩ : ∃ u, qf k = u := ⟨_, rfl⟩
  have hu : Tb n u := by rw [← ek]; exact bq.1 k hkc
  have ru := (rk_t hu.1).1
  rw [ek]
  obtain ⟨c0, ec0⟩ : ∃ z, z = c := ⟨_, rfl⟩
  have hc720 := bq.le
  rw [← ec0]
  refine ab_C.of (L := [some (.ref q), some (.int (nI (pk u))), some (.ref 55), some (.int (nI c0)), none, none, none, none, none]) rfl rfl (Nat.le_of_ble_eq_true rfl) (fun l => ?_)
  have loop : ∀ kf i (hh : ab_H) (c : Nat) (qf : Nat → Nat → Nat) (gf gw gq : Nat → Int32), i + kf = Lk n K → SL q h hh n K (Lk n K) gs gt gf gw gq → BQ n K k i c qf → BG n K k i c qf gf gw gq → qf k = u → k < c → ab_W Y_Slips_spread none l (fun r m2 h2 => m2 = m ∧ ∃ (c2 : Nat) (qf2 : Nat → Nat → Nat) (gf2 gw2 gq2 : Nat → Int32), r = some (.int (nI c2)) ∧ SL q h h2 n K (Lk n K) gs gt gf2 gw2 gq2 ∧ BQ n K k (Lk n K) c2 qf2 ∧ BG n K k (Lk n K) c2 qf2 gf2 gw2 gq2 ∧ k < c2) 12 [some (.ref q), some (.int (nI (pk u))), some (.ref 55), some (.int (nI c0)), some (.int (nI (c))), some (.int (nI (rk u))), some (.int (nI (i))), none, none] [] m (hh) (0, 0) := by
    intro kf
    induction kf with
    | zero =>
      intro i hh c qf gf gw gq hi hs bq bg ek hkc
      have hin : Lk n K = i := by omega
      subst hin
      obtain ⟨o0, o1, o2, o3, o4, o5, o6, o7⟩ := id hs
      refine aw_iload d_Slips_spread_12 rfl ?_
      refine aw_aload_n d_Slips_spread_14 rfl ?_
      refine aw_get (k := 2) d_Slips_spread_15 cl_Slips k_Slips_64 (by decide) o0 rfl ?_
      refine aw_icmp_ge (tgt := 135) d_Slips_spread_18 (by decide) (fun c18 => ?_) (fun c18 => ?_)
      · refine aw_iload d_Slips_spread_135 rfl ?_
        refine aw_ireturn d_Slips_spread_137 rfl rfl ?_
        exact ⟨rfl, c, qf, gf, gw, gq, rfl, hs, bq, bg, hkc⟩
      · exact absurd (Int32.le_refl _) c18
    | succ kf ih =>
      intro i hh c qf gf gw gq hi hs bq bg ek hkc
      obtain ⟨o0, o1, o2, o3, o4, o5, o6, o7⟩ := id hs
      have hil : i < Lk n K := by omega
      have hL45 : Lk n K ≤ 45 := isl_le hn hK
      have hc7 := bq.le
      obtain ⟨his, hct⟩ := sl_t hil
      have hy := hu.ed hn his
      have ry := (rk_t hy.1).1
      have hls := ls _ (isl_s his).1 his
      rw [hct] at hls
      have fu := bg.2.1 u hu ⟨k, hkc, ek⟩
      have fw : gw (rk u) = nI (WW n K u) := by rw [fu.2]; have := bq.W hn h0 hK hkc; rw [ek] at this; rw [this]
      refine aw_iload d_Slips_spread_12 rfl ?_
      refine aw_aload_n d_Slips_spread_14 rfl ?_
      refine aw_get (k := 2) d_Slips_spread_15 cl_Slips k_Slips_64 (by decide) o0 rfl ?_
      refine aw_icmp_ge (tgt := 135) d_Slips_spread_18 (by decide) (fun c18 => ?_) (fun c18 => ?_)
      · exact absurd c18 (nI_ge (by omega) (by omega))
      · refine aw_iload_n d_Slips_spread_21 rfl ?_
        refine aw_aload_n d_Slips_spread_22 rfl ?_
        refine aw_get (k := 4) d_Slips_spread_23 cl_Slips k_Slips_15 (by decide) o0 rfl ?_
        refine aw_iload d_Slips_spread_26 rfl ?_
        refine aw_ialoadN d_Slips_spread_28 o2 (by omega) (by decide) ?_
        rw [hls.2]
        refine aw_s0i d_Slips_spread_29 k_Slips_77 ok_Slips_done rfl ⟨rfl, rfl⟩ (c_done hn his hu.1) rfl rfl (Nat.le_of_ble_eq_true rfl) ?_
        refine aw_istore (L' := [some (.ref q), some (.int (nI (pk u))), some (.ref 55), some (.int (nI c0)), some (.int (nI (c))), some (.int (nI (rk u))), some (.int (nI (i))), some (.int (nI (pk (ed (sl n K i) u)))), none]) d_Slips_spread_32 ⟨by decide, rfl⟩ rfl ?_
        refine aw_iload d_Slips_spread_34 rfl ?_
        refine aw_s0i d_Slips_spread_36 k_Slips_74 ok_Rows_rank rfl ⟨rfl, rfl⟩ (c_rank hy.1) rfl rfl (Nat.le_of_ble_eq_true rfl) ?_
        refine aw_istore (L' := [some (.ref q), some (.int (nI (pk u))), some (.ref 55), some (.int (nI c0)), some (.int (nI (c))), some (.int (nI (rk u))), some (.int (nI (i))), some (.int (nI (pk (ed (sl n K i) u)))), some (.int (nI (rk (ed (sl n K i) u))))]) d_Slips_spread_39 ⟨by decide, rfl⟩ rfl ?_
        refine aw_aload_n d_Slips_spread_41 rfl ?_
        refine aw_get (k := 5) d_Slips_spread_42 cl_Slips k_Slips_18 (by decide) o0 rfl ?_
        refine aw_iload d_Slips_spread_45 rfl ?_
        refine aw_ialoadN d_Slips_spread_47 o3 ry (by decide) ?_
        refine aw_iconst (v := (-1)) d_Slips_spread_48 (by decide) ?_
        refine aw_icmp_ne (tgt := 93) d_Slips_spread_49 (by decide) (fun c49 => ?_) (fun c49 => ?_)
        · have c93 : ∀ (hh : ab_H) (c2 : Nat) (qf2 : Nat → Nat → Nat) (gf2 gw2 gq2 : Nat → Int32), SL q h hh n K (Lk n K) gs gt gf2 gw2 gq2 → gf2 (rk (ed (sl n K i) u)) = nI (DD n K (ed (sl n K i) u)) → gf2 (rk u) = nI (DD n K u) → gw2 (rk u) = nI (WW n K u) → qf2 k = u → k < c2 → BQ n K k (i + 1) c2 qf2 → (DD n K u + 1 = DD n K (ed (sl n K i) u) → BG n K k (i + 1) c2 qf2 gf2 (upd gw2 (rk (ed (sl n K i) u)) (gw2 (rk (ed (sl n K i) u)) + nI (WW n K u))) gq2) → (¬ DD n K u + 1 = DD n K (ed (sl n K i) u) → BG n K k (i + 1) c2 qf2 gf2 gw2 gq2) → ab_W Y_Slips_spread none l (fun r m2 h2 => m2 = m ∧ ∃ (c2 : Nat) (qf2 : Nat → Nat → Nat) (gf2 gw2 gq2 : Nat → Int32), r = some (.int (nI c2)) ∧ SL q h h2 n K (Lk n K) gs gt gf2 gw2 gq2 ∧ BQ n K k (Lk n K) c2 qf2 ∧ BG n K k (Lk n K) c2 qf2 gf2 gw2 gq2 ∧ k < c2) 93 [some (.ref q), some (.int (nI (pk u))), some (.ref 55), some (.int (nI c0)), some (.int (nI (c2))), some (.int (nI (rk u))), some (.int (nI (i))), some (.int (nI (pk (ed (sl n K i) u)))), some (.int (nI (rk (ed (sl n K i) u))))] [] m hh (0, 0) := by
            intro hh c2 qf2 gf2 gw2 gq2 hs e1 e2 e3 ek hk2 bq hadd hsame
            obtain ⟨o0, o1, o2, o3, o4, o5, o6, o7⟩ := id hs
            refine aw_aload_n d_Slips_spread_93 rfl ?_
            refine aw_get (k := 5) d_Slips_spread_94 cl_Slips k_Slips_18 (by decide) o0 rfl ?_
            refine aw_iload d_Slips_spread_97 rfl ?_
            refine aw_ialoadN d_Slips_spread_99 o3 ry (by decide) ?_
            rw [e1]
            refine aw_aload_n d_Slips_spread_100 rfl ?_
            refine aw_get (k := 5) d_Slips_spread_101 cl_Slips k_Slips_18 (by decide) o0 rfl ?_
            refine aw_iload d_Slips_spread_104 rfl ?_
            refine aw_ialoadN d_Slips_spread_106 o3 ru (by decide) ?_
            refine aw_iconst (v := nI 1) d_Slips_spread_107 (by decide) ?_
            refine aw_iadd d_Slips_spread_108 ?_
            rw [e2, nI_add]
            refine aw_icmp_ne (tgt := 129) d_Slips_spread_109 (by decide) (fun c109 => ?_) (fun c109 => ?_)
            · refine aw_iinc (v := nI ((i) + 1)) (L' := [some (.ref q), some (.int (nI (pk u))), some (.ref 55), some (.int (nI c0)), some (.int (nI (c2))), some (.int (nI (rk u))), some (.int (nI ((i) + 1))), some (.int (nI (pk (ed (sl n K i) u)))), some (.int (nI (rk (ed (sl n K i) u))))]) d_Slips_spread_129 rfl (nI_1 _) ⟨by decide, rfl⟩ rfl ?_
              refine aw_goto (tgt := 12) d_Slips_spread_132 (by decide) ?_
              first
                | (refine aw_drop 7 (aw_drop 8 (ih (i + 1) hh c2 qf2 gf2 gw2 gq2 (by omega) hs bq (hsame (fun z => c109 (by rw [z]))) ek hk2)))
                | (have z : DD n K u + 1 = DD n K (ed (sl n K i) u) := ((nI_eq (by have := (DD_t hn h0 hK hy).1; omega) (by have := (DD_t hn h0 hK hu).1; omega)).mp c109).symm
                   exact aw_drop 7 (aw_drop 8 (ih (i + 1) _ c2 qf2 gf2 _ gq2 (by omega) (hs.s4 _) bq (hadd z) ek hk2)))
            · refine aw_aload_n d_Slips_spread_112 rfl ?_
              refine aw_get (k := 6) d_Slips_spread_113 cl_Slips k_Slips_21 (by decide) o0 rfl ?_
              refine aw_iload d_Slips_spread_116 rfl ?_
              refine aw_dup2 d_Slips_spread_118 rfl rfl ?_
              refine aw_ialoadN d_Slips_spread_119 o4 ry (by decide) ?_
              refine aw_aload_n d_Slips_spread_120 rfl ?_
              refine aw_get (k := 6) d_Slips_spread_121 cl_Slips k_Slips_21 (by decide) o0 rfl ?_
              refine aw_iload d_Slips_spread_124 rfl ?_
              refine aw_ialoadN d_Slips_spread_126 o4 ru (by decide) ?_
              rw [e3]
              refine aw_iadd d_Slips_spread_127 ?_
              refine aw_iastoreN d_Slips_spread_128 o4 ry (by decide) ?_
              refine aw_iinc (v := nI ((i) + 1)) (L' := [some (.ref q), some (.int (nI (pk u))), some (.ref 55), some (.int (nI c0)), some (.int (nI (c2))), some (.int (nI (rk u))), some (.int (nI ((i) + 1))), some (.int (nI (pk (ed (sl n K i) u)))), some (.int (nI (rk (ed (sl n K i) u))))]) d_Slips_spread_129 rfl (nI_1 _) ⟨by decide, rfl⟩ rfl ?_
              refine aw_goto (tgt := 12) d_Slips_spread_132 (by decide) ?_
              first
                | (refine aw_drop 7 (aw_drop 8 (ih (i + 1) hh c2 qf2 gf2 gw2 gq2 (by omega) hs bq (hsame (fun z => c109 (by rw [z]))) ek hk2)))
                | (have z : DD n K u + 1 = DD n K (ed (sl n K i) u) := ((nI_eq (by have := (DD_t hn h0 hK hy).1; omega) (by have := (DD_t hn h0 hK hu).1; omega)).mp c109).symm
                   exact aw_drop 7 (aw_drop 8 (ih (i + 1) _ c2 qf2 gf2 _ gq2 (by omega) (hs.s4 _) bq (hadd z) ek hk2)))
          first
            | (have hin : inq c qf (ed (sl n K i) u) := Classical.byContradiction (fun z => c49 (bg.2.2 _ hy z))
               exact c93 hh c qf gf gw gq hs (bg.2.1 _ hy hin).1 fu.1 fw ek hkc (bq.old (by rw [ek]; exact hin)) (fun z => by
                 have := bg.add hn bq hkc hil (by rw [ek]; exact z)
                 rw [ek] at this
                 exact this) (fun z => bg.same hn bq hkc hil (by rw [ek]; exact z)))
            | (have ne : rk u ≠ rk (ed (sl n K i) u) := fun z => hno ⟨k, hkc, by rw [ek]; exact rk_inj hu.1 hy.1 z⟩
               refine c93 hh (c + 1) _ _ _ _ hs pk_us (by rw [pk_un ne]; exact fu.1) (by rw [pk_un ne]; exact fw) (by rw [show ud qf c (ed (sl n K i) u) k = qf k from if_neg (by omega), ek]) (by omega) hnew.2 (fun z => ?_) (fun z => absurd hnew.1.symm z)
               rw [fa_upd_twice, pk_us, nI_add, Nat.zero_add]
               exact gnew)
        · refine aw_iload d_Slips_spread_52 rfl ?_
          refine aw_sipush (v := nI 720) d_Slips_spread_54 (by decide) ?_
          refine aw_icmp_ge (tgt := 93) d_Slips_spread_57 (by decide) (fun c57 => ?_) (fun c57 => ?_)
          · have hno : ¬ inq c qf (ed (sl n K i) u) := fun z => by
              have := (bg.2.1 _ hy z).1
              rw [this] at c49
              exact absurd c49 (by rw [fa_eq, nI_toInt (by have := (DD_t hn h0 hK hy).1; omega)]; rw [show (-1 : Int32).toInt = -1 from by decide]; omega)
            have := bq.room hy hno
            exact absurd c57 (nI_ge this (by omega))
          · have hno : ¬ inq c qf (ed (sl n K i) (qf k)) := fun z => by
              rw [ek] at z
              have := (bg.2.1 _ hy z).1
              rw [this] at c49
              exact absurd c49 (by rw [fa_eq, nI_toInt (by have := (DD_t hn h0 hK hy).1; omega)]; rw [show (-1 : Int32).toInt = -1 from by decide]; omega)
            have hnew := bq.new hn h0 hK hkc hil hno
            have gnew := bg.new hn h0 hK bq hkc hil hno (y := (ed (sl n K i) u)) (by rw [ek])
            rw [ek] at hnew gnew
            have hrm := bq.room (hu.ed hn his) (by rw [ek] at hno; exact hno)
            refine aw_aload_n d_Slips_spread_60 rfl ?_
            refine aw_get (k := 5) d_Slips_spread_61 cl_Slips k_Slips_18 (by decide) o0 rfl ?_
            refine aw_iload d_Slips_spread_64 rfl ?_
            refine aw_aload_n d_Slips_spread_66 rfl ?_
            refine aw_get (k := 5) d_Slips_spread_67 cl_Slips k_Slips_18 (by decide) o0 rfl ?_
            refine aw_iload d_Slips_spread_70 rfl ?_
            refine aw_ialoadN d_Slips_spread_72 o3 ru (by decide) ?_
            refine aw_iconst (v := nI 1) d_Slips_spread_73 (by decide) ?_
            refine aw_iadd d_Slips_spread_74 ?_
            rw [fu.1, nI_add, ← hnew.1]
            refine aw_iastoreN d_Slips_spread_75 o3 ry (by decide) ?_
            refine aw_gen (fun z => SL q h z n K (Lk n K) gs gt (upd gf (rk (ed (sl n K i) u)) (nI (DD n K (ed (sl n K i) u)))) (gw) (gq)) (hs.s3 _) (fun hh hs => ?_)
            obtain ⟨o0, o1, o2, o3, o4, o5, o6, o7⟩ := id hs
            refine aw_aload_n d_Slips_spread_76 rfl ?_
            refine aw_get (k := 6) d_Slips_spread_77 cl_Slips k_Slips_21 (by decide) o0 rfl ?_
            refine aw_iload d_Slips_spread_80 rfl ?_
            refine aw_iconst (v := nI 0) d_Slips_spread_82 (by decide) ?_
            refine aw_iastoreN d_Slips_spread_83 o4 ry (by decide) ?_
            refine aw_gen (fun z => SL q h z n K (Lk n K) gs gt (upd gf (rk (ed (sl n K i) u)) (nI (DD n K (ed (sl n K i) u)))) (upd gw (rk (ed (sl n K i) u)) (nI 0)) (gq)) (hs.s4 _) (fun hh hs => ?_)
            obtain ⟨o0, o1, o2, o3, o4, o5, o6, o7⟩ := id hs
            refine aw_aload_n d_Slips_spread_84 rfl ?_
            refine aw_iload d_Slips_spread_85 rfl ?_
            refine aw_iload d_Slips_spread_87 rfl ?_
            refine aw_iastoreN d_Slips_spread_89 o5 (by omega) (by decide) ?_
            refine aw_gen (fun z => SL q h z n K (Lk n K) gs gt (upd gf (rk (ed (sl n K i) u)) (nI (DD n K (ed (sl n K i) u)))) (upd gw (rk (ed (sl n K i) u)) (nI 0)) (upd gq c (nI (pk (ed (sl n K i) u))))) (hs.sq _) (fun hh hs => ?_)
            obtain ⟨o0, o1, o2, o3, o4, o5, o6, o7⟩ := id hs
            refine aw_iinc (v := nI ((c) + 1)) (L' := [some (.ref q), some (.int (nI (pk u))), some (.ref 55), some (.int (nI c0)), some (.int (nI ((c) + 1))), some (.int (nI (rk u))), some (.int (nI (i))), some (.int (nI (pk (ed (sl n K i) u)))), some (.int (nI (rk (ed (sl n K i) u))))]) d_Slips_spread_90 rfl (nI_1 _) ⟨by decide, rfl⟩ rfl ?_
            have c93 : ∀ (hh : ab_H) (c2 : Nat) (qf2 : Nat → Nat → Nat) (gf2 gw2 gq2 : Nat → Int32), SL q h hh n K (Lk n K) gs gt gf2 gw2 gq2 → gf2 (rk (ed (sl n K i) u)) = nI (DD n K (ed (sl n K i) u)) → gf2 (rk u) = nI (DD n K u) → gw2 (rk u) = nI (WW n K u) → qf2 k = u → k < c2 → BQ n K k (i + 1) c2 qf2 → (DD n K u + 1 = DD n K (ed (sl n K i) u) → BG n K k (i + 1) c2 qf2 gf2 (upd gw2 (rk (ed (sl n K i) u)) (gw2 (rk (ed (sl n K i) u)) + nI (WW n K u))) gq2) → (¬ DD n K u + 1 = DD n K (ed (sl n K i) u) → BG n K k (i + 1) c2 qf2 gf2 gw2 gq2) → ab_W Y_Slips_spread none l (fun r m2 h2 => m2 = m ∧ ∃ (c2 : Nat) (qf2 : Nat → Nat → Nat) (gf2 gw2 gq2 : Nat → Int32), r = some (.int (nI c2)) ∧ SL q h h2 n K (Lk n K) gs gt gf2 gw2 gq2 ∧ BQ n K k (Lk n K) c2 qf2 ∧ BG n K k (Lk n K) c2 qf2 gf2 gw2 gq2 ∧ k < c2) 93 [some (.ref q), some (.int (nI (pk u))), some (.ref 55), some (.int (nI c0)), some (.int (nI (c2))), some (.int (nI (rk u))), some (.int (nI (i))), some (.int (nI (pk (ed (sl n K i) u)))), some (.int (nI (rk (ed (sl n K i) u))))] [] m hh (0, 0) := by
              intro hh c2 qf2 gf2 gw2 gq2 hs e1 e2 e3 ek hk2 bq hadd hsame
              obtain ⟨o0, o1, o2, o3, o4, o5, o6, o7⟩ := id hs
              refine aw_aload_n d_Slips_spread_93 rfl ?_
              refine aw_get (k := 5) d_Slips_spread_94 cl_Slips k_Slips_18 (by decide) o0 rfl ?_
              refine aw_iload d_Slips_spread_97 rfl ?_
              refine aw_ialoadN d_Slips_spread_99 o3 ry (by decide) ?_
              rw [e1]
              refine aw_aload_n d_Slips_spread_100 rfl ?_
              refine aw_get (k := 5) d_Slips_spread_101 cl_Slips k_Slips_18 (by decide) o0 rfl ?_
              refine aw_iload d_Slips_spread_104 rfl ?_
              refine aw_ialoadN d_Slips_spread_106 o3 ru (by decide) ?_
              refine aw_iconst (v := nI 1) d_Slips_spread_107 (by decide) ?_
              refine aw_iadd d_Slips_spread_108 ?_
              rw [e2, nI_add]
              refine aw_icmp_ne (tgt := 129) d_Slips_spread_109 (by decide) (fun c109 => ?_) (fun c109 => ?_)
              · refine aw_iinc (v := nI ((i) + 1)) (L' := [some (.ref q), some (.int (nI (pk u))), some (.ref 55), some (.int (nI c0)), some (.int (nI (c2))), some (.int (nI (rk u))), some (.int (nI ((i) + 1))), some (.int (nI (pk (ed (sl n K i) u)))), some (.int (nI (rk (ed (sl n K i) u))))]) d_Slips_spread_129 rfl (nI_1 _) ⟨by decide, rfl⟩ rfl ?_
                refine aw_goto (tgt := 12) d_Slips_spread_132 (by decide) ?_
                first
                  | (refine aw_drop 7 (aw_drop 8 (ih (i + 1) hh c2 qf2 gf2 gw2 gq2 (by omega) hs bq (hsame (fun z => c109 (by rw [z]))) ek hk2)))
                  | (have z : DD n K u + 1 = DD n K (ed (sl n K i) u) := ((nI_eq (by have := (DD_t hn h0 hK hy).1; omega) (by have := (DD_t hn h0 hK hu).1; omega)).mp c109).symm
                     exact aw_drop 7 (aw_drop 8 (ih (i + 1) _ c2 qf2 gf2 _ gq2 (by omega) (hs.s4 _) bq (hadd z) ek hk2)))
              · refine aw_aload_n d_Slips_spread_112 rfl ?_
                refine aw_get (k := 6) d_Slips_spread_113 cl_Slips k_Slips_21 (by decide) o0 rfl ?_
                refine aw_iload d_Slips_spread_116 rfl ?_
                refine aw_dup2 d_Slips_spread_118 rfl rfl ?_
                refine aw_ialoadN d_Slips_spread_119 o4 ry (by decide) ?_
                refine aw_aload_n d_Slips_spread_120 rfl ?_
                refine aw_get (k := 6) d_Slips_spread_121 cl_Slips k_Slips_21 (by decide) o0 rfl ?_
                refine aw_iload d_Slips_spread_124 rfl ?_
                refine aw_ialoadN d_Slips_spread_126 o4 ru (by decide) ?_
                rw [e3]
                refine aw_iadd d_Slips_spread_127 ?_
                refine aw_iastoreN d_Slips_spread_128 o4 ry (by decide) ?_
                refine aw_iinc (v := nI ((i) + 1)) (L' := [some (.ref q), some (.int (nI (pk u))), some (.ref 55), some (.int (nI c0)), some (.int (nI (c2))), some (.int (nI (rk u))), some (.int (nI ((i) + 1))), some (.int (nI (pk (ed (sl n K i) u)))), some (.int (nI (rk (ed (sl n K i) u))))]) d_Slips_spread_129 rfl (nI_1 _) ⟨by decide, rfl⟩ rfl ?_
                refine aw_goto (tgt := 12) d_Slips_spread_132 (by decide) ?_
                first
                  | (refine aw_drop 7 (aw_drop 8 (ih (i + 1) hh c2 qf2 gf2 gw2 gq2 (by omega) hs bq (hsame (fun z => c109 (by rw [z]))) ek hk2)))
                  | (have z : DD n K u + 1 = DD n K (ed (sl n K i) u) := ((nI_eq (by have := (DD_t hn h0 hK hy).1; omega) (by have := (DD_t hn h0 hK hu).1; omega)).mp c109).symm
                     exact aw_drop 7 (aw_drop 8 (ih (i + 1) _ c2 qf2 gf2 _ gq2 (by omega) (hs.s4 _) bq (hadd z) ek hk2)))
            first
              | (have hin : inq c qf (ed (sl n K i) u) := Classical.byContradiction (fun z => c49 (bg.2.2 _ hy z))
                 exact c93 hh c qf gf gw gq hs (bg.2.1 _ hy hin).1 fu.1 fw ek hkc (bq.old (by rw [ek]; exact hin)) (fun z => by
                   have := bg.add hn bq hkc hil (by rw [ek]; exact z)
                   rw [ek] at this
                   exact this) (fun z => bg.same hn bq hkc hil (by rw [ek]; exact z)))
              | (have ne : rk u ≠ rk (ed (sl n K i) u) := fun z => hno ⟨k, hkc, by rw [ek]; exact rk_inj hu.1 hy.1 z⟩
                 refine c93 hh (c + 1) _ _ _ _ hs pk_us (by rw [pk_un ne]; exact fu.1) (by rw [pk_un ne]; exact fw) (by rw [show ud qf c (ed (sl n K i) u) k = qf k from if_neg (by omega), ek]) (by omega) hnew.2 (fun z => ?_) (fun z => absurd hnew.1.symm z)
                 rw [fa_upd_twice, pk_us, nI_add, Nat.zero_add]
                 exact gnew)
  refine aw_iload_n d_Slips_spread_0 rfl ?_
  refine aw_istore (L' := [some (.ref q), some (.int (nI (pk u))), some (.ref 55), some (.int (nI c0)), some (.int (nI c0)), none, none, none, none]) d_Slips_spread_1 ⟨by decide, rfl⟩ rfl ?_
  refine aw_iload_n d_Slips_spread_3 rfl ?_
  refine aw_s0i d_Slips_spread_4 k_Slips_74 ok_Rows_rank rfl ⟨rfl, rfl⟩ (c_rank hu.1) rfl rfl (Nat.le_of_ble_eq_true rfl) ?_
  refine aw_istore (L' := [some (.ref q), some (.int (nI (pk u))), some (.ref 55), some (.int (nI c0)), some (.int (nI c0)), some (.int (nI (rk u))), none, none, none]) d_Slips_spread_7 ⟨by decide, rfl⟩ rfl ?_
  refine aw_iconst (v := nI 0) d_Slips_spread_9 (by decide) ?_
  refine aw_istore (L' := [some (.ref q), some (.int (nI (pk u))), some (.ref 55), some (.int (nI c0)), some (.int (nI c0)), some (.int (nI (rk u))), some (.int (nI 0)), none, none]) d_Slips_spread_10 ⟨by decide, rfl⟩ rfl ?_
  have z := loop (Lk n K) 0 hh c qf gf gw gq (by omega) hs bq bg ek hkc
  rw [ec0]
  rw [ec0] at z
  exact z
