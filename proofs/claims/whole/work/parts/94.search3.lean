theorem c_Slips_fill {m : Nat} {h hh : ab_H} {q n K pe kn : Nat} (hn : n ≤ 6) (h0 : 0 < K) (hK : K < 8) {gs gt gf gw gq : Nat → Int32} (hs : SL q h hh pe K kn gs gt gf gw gq) : ab_C Y_Slips_fill [.ref q, .int (nI n), .ref 55] m hh (fun r m2 h2 => r = none ∧ m2 = m ∧ ∃ gs gt gf gw gq : Nat → Int32, SL q h h2 n K (Lk n K) gs gt gf gw gq ∧ SV n K (Lk n K) gs gt gf gw) := by
  obtain ⟨o0, o1, o2, o3, o4, o5, o6, o7⟩ := id hs
  refine ab_C.of (L := [some (.ref q), some (.int (nI n)), some (.ref 55), none, none]) rfl rfl (Nat.le_of_ble_eq_true rfl) (fun l => ?_)
  refine aw_aload_n d_Slips_fill_0 rfl ?_
  refine aw_iload_n d_Slips_fill_1 rfl ?_
  refine aw_put (k := 0) (fs' := [.int (nI n), .int (nI K), .int (nI kn), .ref (q + 1), .ref (q + 2), .ref (q + 3), .ref (q + 4)]) d_Slips_fill_2 cl_Slips k_Slips_50 (by decide) rfl ⟨rfl, rfl⟩ o0 (Nat.le_of_ble_eq_true rfl) rfl ?_
  refine aw_gen (fun z => SL q h z n K kn gs gt (gf) (gw) (gq)) (hs.o _ _) (fun hh hs => ?_)
  obtain ⟨o0, o1, o2, o3, o4, o5, o6, o7⟩ := id hs
  refine aw_aload_n d_Slips_fill_5 rfl ?_
  refine aw_v0 (a := q) d_Slips_fill_6 k_Slips_51 ok_Slips_gather rfl ⟨rfl, rfl⟩ cl_Slips o0 (c_Slips_gather hn hK hs) rfl rfl (Nat.le_of_ble_eq_true rfl) (fun r m2 hh z => ?_)
  obtain ⟨rfl, em, gs, gt, hs, ls⟩ := z
  rw [em]
  show ab_W _ _ _ _ 9 _ [] _ _ _
  obtain ⟨o0, o1, o2, o3, o4, o5, o6, o7⟩ := id hs
  refine aw_aload_n d_Slips_fill_9 rfl ?_
  refine aw_get (k := 5) d_Slips_fill_10 cl_Slips k_Slips_18 (by decide) o0 rfl ?_
  refine aw_iconst (v := (-1)) d_Slips_fill_13 (by decide) ?_
  refine aw_s0v d_Slips_fill_14 k_Slips_54 ok_JA_fill rfl ⟨rfl, rfl⟩ (c_fill (a := q + 3) o3 (by decide) (-1)) rfl rfl (Nat.le_of_ble_eq_true rfl) ?_
  refine aw_gen (fun z => SL q h z n K (Lk n K) gs gt (fa_fill (fun _ => (-1)) gf 720) (gw) (gq)) (hs.s3 _) (fun hh hs => ?_)
  obtain ⟨o0, o1, o2, o3, o4, o5, o6, o7⟩ := id hs
  refine aw_aload_n d_Slips_fill_17 rfl ?_
  refine aw_get (k := 5) d_Slips_fill_18 cl_Slips k_Slips_18 (by decide) o0 rfl ?_
  refine aw_iconst (v := nI 0) d_Slips_fill_21 (by decide) ?_
  refine aw_iconst (v := nI 0) d_Slips_fill_22 (by decide) ?_
  refine aw_iastoreN d_Slips_fill_23 o3 (by omega) (by decide) ?_
  refine aw_gen (fun z => SL q h z n K (Lk n K) gs gt (upd (fa_fill (fun _ => (-1)) gf 720) 0 (nI 0)) (gw) (gq)) (hs.s3 _) (fun hh hs => ?_)
  obtain ⟨o0, o1, o2, o3, o4, o5, o6, o7⟩ := id hs
  refine aw_aload_n d_Slips_fill_24 rfl ?_
  refine aw_get (k := 6) d_Slips_fill_25 cl_Slips k_Slips_21 (by decide) o0 rfl ?_
  refine aw_iconst (v := nI 0) d_Slips_fill_28 (by decide) ?_
  refine aw_iconst (v := nI 1) d_Slips_fill_29 (by decide) ?_
  refine aw_iastoreN d_Slips_fill_30 o4 (by omega) (by decide) ?_
  refine aw_gen (fun z => SL q h z n K (Lk n K) gs gt (upd (fa_fill (fun _ => (-1)) gf 720) 0 (nI 0)) (upd gw 0 (nI 1)) (gq)) (hs.s4 _) (fun hh hs => ?_)
  obtain ⟨o0, o1, o2, o3, o4, o5, o6, o7⟩ := id hs
  refine aw_aload_n d_Slips_fill_31 rfl ?_
  refine aw_iconst (v := nI 0) d_Slips_fill_32 (by decide) ?_
  refine aw_ldc (v := nI 181896) d_Slips_fill_33 k_Slips_30 ?_
  refine aw_iastoreN d_Slips_fill_35 o5 (by omega) (by decide) ?_
  refine aw_gen (fun z => SL q h z n K (Lk n K) gs gt (upd (fa_fill (fun _ => (-1)) gf 720) 0 (nI 0)) (upd gw 0 (nI 1)) (upd gq 0 (nI 181896))) (hs.sq _) (fun hh hs => ?_)
  obtain ⟨o0, o1, o2, o3, o4, o5, o6, o7⟩ := id hs
  refine aw_iconst (v := nI 1) d_Slips_fill_36 (by decide) ?_
  refine aw_istore_n (L' := [some (.ref q), some (.int (nI n)), some (.ref 55), some (.int (nI 1)), none]) d_Slips_fill_37 ⟨by decide, rfl⟩ rfl ?_
  refine aw_iconst (v := nI 0) d_Slips_fill_38 (by decide) ?_
  refine aw_istore (L' := [some (.ref q), some (.int (nI n)), some (.ref 55), some (.int (nI 1)), some (.int (nI 0))]) d_Slips_fill_39 ⟨by decide, rfl⟩ rfl ?_
  have loop : ∀ kf k (hh : ab_H) (c : Nat) (qf : Nat → Nat → Nat) (gf gw gq : Nat → Int32), k + kf = 720 → SL q h hh n K (Lk n K) gs gt gf gw gq → BQ n K k 0 c qf → BG n K k 0 c qf gf gw gq → ab_W Y_Slips_fill none l (fun r m2 h2 => r = none ∧ m2 = m ∧ ∃ gs gt gf gw gq : Nat → Int32, SL q h h2 n K (Lk n K) gs gt gf gw gq ∧ SV n K (Lk n K) gs gt gf gw) 41 [some (.ref q), some (.int (nI n)), some (.ref 55), some (.int (nI c)), some (.int (nI (k)))] [] m (hh) (0, 0) := by
    intro kf
    induction kf with
    | zero =>
      intro k hh c qf gf gw gq hk hs bq bg
      have hkn : 720 = k := by omega
      subst hkn
      have hc7 := bq.le
      refine aw_iload d_Slips_fill_41 rfl ?_
      refine aw_sipush (v := nI 720) d_Slips_fill_43 (by decide) ?_
      refine aw_icmp_ge (tgt := 72) d_Slips_fill_46 (by decide) (fun c46 => ?_) (fun c46 => ?_)
      · refine aw_return d_Slips_fill_72 rfl ?_
        have ekc : 720 = c := by have := bq.2.2.2.2.2.2.2.1; omega
        rw [← ekc] at bq bg
        exact ⟨rfl, rfl, gs, gt, gf, gw, gq, hs, rfl, ls, bg.fin hn h0 hK bq⟩
      · exact absurd (Int32.le_refl _) c46
    | succ kf ih =>
      intro k hh c qf gf gw gq hk hs bq bg
      obtain ⟨o0, o1, o2, o3, o4, o5, o6, o7⟩ := id hs
      have hc7 := bq.le
      refine aw_iload d_Slips_fill_41 rfl ?_
      refine aw_sipush (v := nI 720) d_Slips_fill_43 (by decide) ?_
      refine aw_icmp_ge (tgt := 72) d_Slips_fill_46 (by decide) (fun c46 => ?_) (fun c46 => ?_)
      · exact absurd c46 (nI_ge (by omega) (by omega))
      · refine aw_iload d_Slips_fill_49 rfl ?_
        refine aw_iload_n d_Slips_fill_51 rfl ?_
        refine aw_icmp_ge (tgt := 72) d_Slips_fill_52 (by decide) (fun c52 => ?_) (fun c52 => ?_)
        · refine aw_return d_Slips_fill_72 rfl ?_
          have c52 := (nI_leI (by omega) (by omega)).mp c52
          have ekc : k = c := by have := bq.2.2.2.2.2.2.2.1; omega
          subst ekc
          exact ⟨rfl, rfl, gs, gt, gf, gw, gq, hs, rfl, ls, bg.fin hn h0 hK bq⟩
        · refine aw_aload_n d_Slips_fill_55 rfl ?_
          refine aw_aload_n d_Slips_fill_56 rfl ?_
          refine aw_iload d_Slips_fill_57 rfl ?_
          refine aw_ialoadN d_Slips_fill_59 o5 (by omega) (by decide) ?_
          have hkc : k < c := Nat.not_le.mp (fun z => c52 (nI_le z (by omega)))
          rw [bg.1 k hkc]
          refine aw_aload_n d_Slips_fill_60 rfl ?_
          refine aw_iload_n d_Slips_fill_61 rfl ?_
          refine aw_v0 (a := q) d_Slips_fill_62 k_Slips_60 ok_Slips_spread rfl ⟨rfl, rfl⟩ cl_Slips o0 (c_spread hn h0 hK hs ls bq bg hkc) rfl rfl (Nat.le_of_ble_eq_true rfl) (fun r m2 hh2 z => ?_)
          obtain ⟨em, c2, qf2, gf2, gw2, gq2, rfl, hs2, bq2, bg2, hk2⟩ := z
          rw [em]
          show ab_W _ _ _ _ 65 _ [.int (nI c2)] _ _ _
          refine aw_istore_n (L' := [some (.ref q), some (.int (nI n)), some (.ref 55), some (.int (nI c2)), some (.int (nI (k)))]) d_Slips_fill_65 ⟨by decide, rfl⟩ rfl ?_
          refine aw_iinc (v := nI ((k) + 1)) (L' := [some (.ref q), some (.int (nI n)), some (.ref 55), some (.int (nI c2)), some (.int (nI ((k) + 1)))]) d_Slips_fill_66 rfl (nI_1 _) ⟨by decide, rfl⟩ rfl ?_
          refine aw_goto (tgt := 41) d_Slips_fill_69 (by decide) ?_
          exact ih (k + 1) hh2 c2 qf2 gf2 gw2 gq2 (by omega) hs2 (bq2.next hk2) bg2.next
  exact loop 720 0 hh 1 (fun _ k => k) _ _ _ (by omega) hs BQ.ini (BG.ini hn h0 hK pk_us (fun k h1 h2 => by rw [pk_un (by omega), fa_fill_in h2]) pk_us pk_us)
theorem c_fewestTo {m : Nat} {h : ab_H} {q n K : Nat} (hn : n ≤ 6) (h0 : 0 < K) (hK : K < 8) {gs gt gf gw : Nat → Int32} (o0 : h q = oL q n K (Lk n K)) (o1 : h (q + 1) = .inl (45, gs)) (o2 : h (q + 2) = .inl (45, gt)) (o3 : h (q + 3) = .inl (720, gf)) (o4 : h (q + 4) = .inl (720, gw)) (sv : SV n K (Lk n K) gs gt gf gw) {x : Nat → Nat} (hx : Tb n x) : ab_D Y_Slips_fewestTo [.ref q, .int (nI (pk x))] m h (some (.int (nI (DD n K x)))) m (h) := by
  refine ab_C.of (L := [some (.ref q), some (.int (nI (pk x)))]) rfl rfl (Nat.le_of_ble_eq_true rfl) (fun l => ?_)
  refine aw_aload_n d_Slips_fewestTo_0 rfl ?_
  refine aw_get (k := 5) d_Slips_fewestTo_1 cl_Slips k_Slips_18 (by decide) o0 rfl ?_
  refine aw_iload_n d_Slips_fewestTo_4 rfl ?_
  refine aw_s0i d_Slips_fewestTo_5 k_Slips_74 ok_Rows_rank rfl ⟨rfl, rfl⟩ (c_rank hx.1) rfl rfl (Nat.le_of_ble_eq_true rfl) ?_
  refine aw_ialoadN d_Slips_fewestTo_8 o3 (rk_t hx.1).1 (by decide) ?_
  refine aw_ireturn d_Slips_fewestTo_9 rfl rfl ?_
  exact ⟨by rw [(sv.2.2 x hx).1], rfl, rfl⟩
theorem c_waysTo {m : Nat} {h : ab_H} {q n K : Nat} (hn : n ≤ 6) (h0 : 0 < K) (hK : K < 8) {gs gt gf gw : Nat → Int32} (o0 : h q = oL q n K (Lk n K)) (o1 : h (q + 1) = .inl (45, gs)) (o2 : h (q + 2) = .inl (45, gt)) (o3 : h (q + 3) = .inl (720, gf)) (o4 : h (q + 4) = .inl (720, gw)) (sv : SV n K (Lk n K) gs gt gf gw) {x : Nat → Nat} (hx : Tb n x) : ab_D Y_Slips_waysTo [.ref q, .int (nI (pk x))] m h (some (.int (nI (WW n K x)))) m (h) := by
  refine ab_C.of (L := [some (.ref q), some (.int (nI (pk x)))]) rfl rfl (Nat.le_of_ble_eq_true rfl) (fun l => ?_)
  refine aw_aload_n d_Slips_waysTo_0 rfl ?_
  refine aw_get (k := 6) d_Slips_waysTo_1 cl_Slips k_Slips_21 (by decide) o0 rfl ?_
  refine aw_iload_n d_Slips_waysTo_4 rfl ?_
  refine aw_s0i d_Slips_waysTo_5 k_Slips_74 ok_Rows_rank rfl ⟨rfl, rfl⟩ (c_rank hx.1) rfl rfl (Nat.le_of_ble_eq_true rfl) ?_
  refine aw_ialoadN d_Slips_waysTo_8 o4 (rk_t hx.1).1 (by decide) ?_
  refine aw_ireturn d_Slips_waysTo_9 rfl rfl ?_
  exact ⟨by rw [(sv.2.2 x hx).2], rfl, rfl⟩
theorem c_firstTowards {m : Nat} {h : ab_H} {q n K : Nat} (hn : n ≤ 6) (h0 : 0 < K) (hK : K < 8) {gs gt gf gw : Nat → Int32} (o0 : h q = oL q n K (Lk n K)) (o1 : h (q + 1) = .inl (45, gs)) (o2 : h (q + 2) = .inl (45, gt)) (o3 : h (q + 3) = .inl (720, gf)) (o4 : h (q + 4) = .inl (720, gw)) (sv : SV n K (Lk n K) gs gt gf gw) {x : Nat → Nat} (hx : Tb n x) (hd : 0 < DD n K x) : ab_D Y_Slips_firstTowards [.ref q, .int (nI (pk x))] m h (some (.int (nI (fb_ct (isl n K) (ftw n K x))))) m (h) := by
  refine ab_C.of (L := [some (.ref q), some (.int (nI (pk x))), none, none]) rfl rfl (Nat.le_of_ble_eq_true rfl) (fun l => ?_)
  have d15 := (DD_t hn h0 hK hx).1
  obtain ⟨f1, f2, f3, f4⟩ := ftw_t hn h0 hK hx hd
  obtain ⟨fc1, fc2⟩ := sl_c f2
  have hL45 : Lk n K ≤ 45 := isl_le hn hK
  have loop : ∀ kf i, i + kf = Lk n K → i ≤ fb_ct (isl n K) (ftw n K x) → ab_W Y_Slips_firstTowards none l (fun r m2 h2 => r = some (.int (nI (fb_ct (isl n K) (ftw n K x)))) ∧ m2 = m ∧ h2 = h) 10 [some (.ref q), some (.int (nI (pk x))), some (.int (nI (DD n K x - 1))), some (.int (nI (i)))] [] m (h) (0, 0) := by
    intro kf
    induction kf with
    | zero =>
      intro i hi hle
      have hin : Lk n K = i := by omega
      subst hin
      exact absurd hle (by omega)
    | succ kf ih =>
      intro i hi hle
      have hil : i < Lk n K := by omega
      obtain ⟨his, hct⟩ := sl_t hil
      have hls := sv.2.1 _ (isl_s his).1 his
      rw [hct] at hls
      have hr := hx.ren hn his
      have dr := (DD_t hn h0 hK hr).1
      refine aw_iload_n d_Slips_firstTowards_10 rfl ?_
      refine aw_aload_n d_Slips_firstTowards_11 rfl ?_
      refine aw_get (k := 2) d_Slips_firstTowards_12 cl_Slips k_Slips_64 (by decide) o0 rfl ?_
      refine aw_icmp_ge (tgt := 44) d_Slips_firstTowards_15 (by decide) (fun c15 => ?_) (fun c15 => ?_)
      · exact absurd c15 (nI_ge (by omega) (by omega))
      · refine aw_aload_n d_Slips_firstTowards_18 rfl ?_
        refine aw_iload_n d_Slips_firstTowards_19 rfl ?_
        refine aw_aload_n d_Slips_firstTowards_20 rfl ?_
        refine aw_get (k := 4) d_Slips_firstTowards_21 cl_Slips k_Slips_15 (by decide) o0 rfl ?_
        refine aw_iload_n d_Slips_firstTowards_24 rfl ?_
        refine aw_ialoadN d_Slips_firstTowards_25 o2 (by omega) (by decide) ?_
        rw [hls.2]
        refine aw_s0i d_Slips_firstTowards_26 k_Slips_83 ok_Slips_renamed rfl ⟨rfl, rfl⟩ (c_renamed hn his hx.1) rfl rfl (Nat.le_of_ble_eq_true rfl) ?_
        refine aw_v0i (a := q) d_Slips_firstTowards_29 k_Slips_86 ok_Slips_fewestTo rfl ⟨rfl, rfl⟩ cl_Slips o0 (c_fewestTo hn h0 hK o0 o1 o2 o3 o4 sv hr) rfl rfl (Nat.le_of_ble_eq_true rfl) ?_
        refine aw_iload_n d_Slips_firstTowards_32 rfl ?_
        refine aw_icmp_ne (tgt := 38) d_Slips_firstTowards_33 (by decide) (fun c33 => ?_) (fun c33 => ?_)
        · refine aw_iinc (v := nI ((i) + 1)) (L' := [some (.ref q), some (.int (nI (pk x))), some (.int (nI (DD n K x - 1))), some (.int (nI ((i) + 1)))]) d_Slips_firstTowards_38 rfl (nI_1 _) ⟨by decide, rfl⟩ rfl ?_
          refine aw_goto (tgt := 10) d_Slips_firstTowards_41 (by decide) ?_
          have c33 : ¬ DD n K (ren (sl n K i) x) + 1 = DD n K x := fun z => c33 (by rw [← z, Nat.add_sub_cancel])
          exact ih (i + 1) (by omega) (by
            have ne : ¬ i = fb_ct (isl n K) (ftw n K x) := fun z => by
              rw [z, fc2] at c33
              exact c33 f3
            omega)
        · refine aw_iload_n d_Slips_firstTowards_36 rfl ?_
          refine aw_ireturn d_Slips_firstTowards_37 rfl rfl ?_
          have c33 := (nI_eq (by omega) (by omega)).mp c33
          refine ⟨?_, rfl, rfl⟩
          rw [show i = fb_ct (isl n K) (ftw n K x) from ?_]
          apply Nat.le_antisymm hle
          apply Nat.not_lt.mp
          intro z
          have lt : sl n K i < ftw n K x := Nat.not_le.mp (fun y => by
            have := fb_ct_mono (isl n K) y
            omega)
          exact f4 _ lt his (by omega)
  refine aw_aload_n d_Slips_firstTowards_0 rfl ?_
  refine aw_iload_n d_Slips_firstTowards_1 rfl ?_
  refine aw_v0i (a := q) d_Slips_firstTowards_2 k_Slips_86 ok_Slips_fewestTo rfl ⟨rfl, rfl⟩ cl_Slips o0 (c_fewestTo hn h0 hK o0 o1 o2 o3 o4 sv hx) rfl rfl (Nat.le_of_ble_eq_true rfl) ?_
  refine aw_iconst (v := nI 1) d_Slips_firstTowards_5 (by decide) ?_
  refine aw_isub d_Slips_firstTowards_6 ?_
  rw [pk_sub (by omega)]
  refine aw_istore_n (L' := [some (.ref q), some (.int (nI (pk x))), some (.int (nI (DD n K x - 1))), none]) d_Slips_firstTowards_7 ⟨by decide, rfl⟩ rfl ?_
  refine aw_iconst (v := nI 0) d_Slips_firstTowards_8 (by decide) ?_
  refine aw_istore_n (L' := [some (.ref q), some (.int (nI (pk x))), some (.int (nI (DD n K x - 1))), some (.int (nI 0))]) d_Slips_firstTowards_9 ⟨by decide, rfl⟩ rfl ?_
  exact loop (Lk n K) 0 (by omega) (Nat.zero_le _)
theorem c_firstWayAt {m : Nat} {h : ab_H} {q n K : Nat} (hn : n ≤ 6) (h0 : 0 < K) (hK : K < 8) {gs gt gf gw : Nat → Int32} (o0 : h q = oL q n K (Lk n K)) (o1 : h (q + 1) = .inl (45, gs)) (o2 : h (q + 2) = .inl (45, gt)) (o3 : h (q + 3) = .inl (720, gf)) (o4 : h (q + 4) = .inl (720, gw)) (sv : SV n K (Lk n K) gs gt gf gw) {x : Nat → Nat} (hx : Tb n x) {w : Nat} (hw : w < DD n K x) : ab_D Y_Slips_firstWayAt [.ref q, .int (nI (pk x)), .int (nI w)] m h (some (.int (nI (ftw n K (lft n K w x))))) m (h) := by
  refine ab_C.of (L := [some (.ref q), some (.int (nI (pk x))), some (.int (nI w)), none, none]) rfl rfl (Nat.le_of_ble_eq_true rfl) (fun l => ?_)
  have d15 := (DD_t hn h0 hK hx).1
  have hL45 : Lk n K ≤ 45 := isl_le hn hK
  have loop : ∀ kf j (y : Nat → Nat), j + kf = w → Tb n y → kf < DD n K y → lft n K kf y = lft n K w x → ab_W Y_Slips_firstWayAt none l (fun r m2 h2 => r = some (.int (nI (ftw n K (lft n K w x)))) ∧ m2 = m ∧ h2 = h) 5 [some (.ref q), some (.int (nI (pk x))), some (.int (nI w)), some (.int (nI (pk y))), some (.int (nI (j)))] [] m (h) (0, 0) := by
    intro kf
    induction kf with
    | zero =>
      intro j y hj hy hd el
      have hjn : w = j := by omega
      subst hjn
      have el : y = lft n K w x := el
      obtain ⟨f1, f2, f3, f4⟩ := ftw_t hn h0 hK hy (by omega)
      obtain ⟨fc1, fc2⟩ := sl_c f2
      have hls := sv.2.1 _ f1 f2
      refine aw_iload d_Slips_firstWayAt_5 rfl ?_
      refine aw_iload_n d_Slips_firstWayAt_7 rfl ?_
      refine aw_icmp_ge (tgt := 40) d_Slips_firstWayAt_8 (by decide) (fun c8 => ?_) (fun c8 => ?_)
      · refine aw_aload_n d_Slips_firstWayAt_40 rfl ?_
        refine aw_get (k := 3) d_Slips_firstWayAt_41 cl_Slips k_Slips_9 (by decide) o0 rfl ?_
        refine aw_aload_n d_Slips_firstWayAt_44 rfl ?_
        refine aw_iload_n d_Slips_firstWayAt_45 rfl ?_
        refine aw_v0i (a := q) d_Slips_firstWayAt_46 k_Slips_80 ok_Slips_firstTowards rfl ⟨rfl, rfl⟩ cl_Slips o0 (c_firstTowards hn h0 hK o0 o1 o2 o3 o4 sv hy (by omega)) rfl rfl (Nat.le_of_ble_eq_true rfl) ?_
        refine aw_ialoadN d_Slips_firstWayAt_49 o1 (by omega) (by decide) ?_
        refine aw_ireturn d_Slips_firstWayAt_50 rfl rfl ?_
        exact ⟨by rw [hls.1, el], rfl, rfl⟩
      · exact absurd (Int32.le_refl _) c8
    | succ kf ih =>
      intro j y hj hy hd el
      obtain ⟨f1, f2, f3, f4⟩ := ftw_t hn h0 hK hy (by omega)
      obtain ⟨fc1, fc2⟩ := sl_c f2
      have hls := sv.2.1 _ f1 f2
      refine aw_iload d_Slips_firstWayAt_5 rfl ?_
      refine aw_iload_n d_Slips_firstWayAt_7 rfl ?_
      refine aw_icmp_ge (tgt := 40) d_Slips_firstWayAt_8 (by decide) (fun c8 => ?_) (fun c8 => ?_)
      · exact absurd c8 (nI_ge (by omega) (by omega))
      · refine aw_iload d_Slips_firstWayAt_11 rfl ?_
        refine aw_sipush (v := nI 720) d_Slips_firstWayAt_13 (by decide) ?_
        refine aw_icmp_ge (tgt := 40) d_Slips_firstWayAt_16 (by decide) (fun c16 => ?_) (fun c16 => ?_)
        · exact absurd c16 (nI_ge (by omega) (by omega))
        · refine aw_iload_n d_Slips_firstWayAt_19 rfl ?_
          refine aw_aload_n d_Slips_firstWayAt_20 rfl ?_
          refine aw_get (k := 4) d_Slips_firstWayAt_21 cl_Slips k_Slips_15 (by decide) o0 rfl ?_
          refine aw_aload_n d_Slips_firstWayAt_24 rfl ?_
          refine aw_iload_n d_Slips_firstWayAt_25 rfl ?_
          refine aw_v0i (a := q) d_Slips_firstWayAt_26 k_Slips_80 ok_Slips_firstTowards rfl ⟨rfl, rfl⟩ cl_Slips o0 (c_firstTowards hn h0 hK o0 o1 o2 o3 o4 sv hy (by omega)) rfl rfl (Nat.le_of_ble_eq_true rfl) ?_
          refine aw_ialoadN d_Slips_firstWayAt_29 o2 (by omega) (by decide) ?_
          rw [hls.2]
          refine aw_s0i d_Slips_firstWayAt_30 k_Slips_83 ok_Slips_renamed rfl ⟨rfl, rfl⟩ (c_renamed hn f2 hy.1) rfl rfl (Nat.le_of_ble_eq_true rfl) ?_
          refine aw_istore_n (L' := [some (.ref q), some (.int (nI (pk x))), some (.int (nI w)), some (.int (nI (pk (ren (ftw n K y) y)))), some (.int (nI (j)))]) d_Slips_firstWayAt_33 ⟨by decide, rfl⟩ rfl ?_
          refine aw_iinc (v := nI ((j) + 1)) (L' := [some (.ref q), some (.int (nI (pk x))), some (.int (nI w)), some (.int (nI (pk (ren (ftw n K y) y)))), some (.int (nI ((j) + 1)))]) d_Slips_firstWayAt_34 rfl (nI_1 _) ⟨by decide, rfl⟩ rfl ?_
          refine aw_goto (tgt := 5) d_Slips_firstWayAt_37 (by decide) ?_
          obtain ⟨f1, f2, f3, f4⟩ := ftw_t hn h0 hK hy (by omega)
          exact ih (j + 1) _ (by omega) (hy.ren hn f2) (by omega) (by rw [← el]; rfl)
  refine aw_iload_n d_Slips_firstWayAt_0 rfl ?_
  refine aw_istore_n (L' := [some (.ref q), some (.int (nI (pk x))), some (.int (nI w)), some (.int (nI (pk x))), none]) d_Slips_firstWayAt_1 ⟨by decide, rfl⟩ rfl ?_
  refine aw_iconst (v := nI 0) d_Slips_firstWayAt_2 (by decide) ?_
  refine aw_istore (L' := [some (.ref q), some (.int (nI (pk x))), some (.int (nI w)), some (.int (nI (pk x))), some (.int (nI 0))]) d_Slips_firstWayAt_3 ⟨by decide, rfl⟩ rfl ?_
  exact loop w 0 x (by omega) hx (by omega) rfl
