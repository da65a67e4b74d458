theorem PM.up1 {V : VV} {c : Nat} {h : ab_H} {S : SS} (hM : PM V c h S) (hc : c < 900) : PM V (c + 1) h S := by
  obtain ⟨⟨tab, la, at_, wr, ve, fs, ft, m0, m1, m2, m3, m4, m5, m6⟩, q⟩ := hM
  exact ⟨⟨tab, la, at_, wr, ve, fs, ft, m0, by omega, by omega, m3, m4, m5, m6⟩, q⟩
theorem S0_ok : S_ok S0 := ⟨N0_ok, fun K e => (by cases e), Nat.zero_le _, fun k hk => absurd hk (Nat.not_lt_zero _), fun k _ => ⟨Or.inl rfl, 0, Nat.zero_le _, rfl⟩⟩
theorem law_loop (l : Launch) {L : Nat} {xs : Nat → Int32} (hL : L ≤ 384) : ∀ k j m (hh : ab_H) (S : SS) (us : Nat × Nat), j + k = 65 → LI j m hh S us → ab_W Y_law (some (L, xs)) l lQ 18 (lL j) [] m hh us := by
  intro k
  induction k with
  | zero =>
    intro j m hh S us hjk li
    refine aw_iload_n d_law_18 rfl ?_
    refine aw_aload_n d_law_19 rfl ?_
    refine aw_alenX d_law_20 rfl ?_
    refine aw_bipush (v := nI 6) d_law_21 (by decide) ?_
    refine aw_isub d_law_23 ?_
    refine aw_icmp_gt (tgt := 1221) d_law_24 (by decide) (fun c24 => ?_) (fun c24 => ?_)
    · refine aw_iconst (v := nI 1) d_law_1221 (by decide) ?_
      refine aw_ireturn d_law_1222 rfl (by decide) ?_
      rfl
    · exfalso
      have c24 : ¬ nI L - nI 6 < nI (6 * j) := c24
      rw [fa_lt, pk_sub_toInt (by omega) (by decide), nI_toInt (by omega)] at c24
      omega
  | succ k ih =>
    intro j m hh S us hjk li
    have nxt : ∀ hh2 m2 S2 us2, LI (j + 1) m2 hh2 S2 us2 → ab_W Y_law (some (L, xs)) l lQ 1215 (lL j) [] m2 hh2 us2 := by
      intro hh2 m2 S2 us2 li2
      refine aw_iinc (v := nI (6 * (j + 1))) (L' := lL (j + 1)) d_law_1215 rfl (by rw [show Int32.ofInt 6 = nI 6 from by decide, nI_add]; congr 1) ⟨by decide, rfl⟩ rfl ?_
      refine aw_goto (tgt := 18) d_law_1218 (by decide) ?_
      exact ih (j + 1) m2 hh2 S2 us2 (by omega) li2
    refine aw_iload_n d_law_18 rfl ?_
    refine aw_aload_n d_law_19 rfl ?_
    refine aw_alenX d_law_20 rfl ?_
    refine aw_bipush (v := nI 6) d_law_21 (by decide) ?_
    refine aw_isub d_law_23 ?_
    refine aw_icmp_gt (tgt := 1221) d_law_24 (by decide) (fun c24 => ?_) (fun c24 => ?_)
    · refine aw_iconst (v := nI 1) d_law_1221 (by decide) ?_
      refine aw_ireturn d_law_1222 rfl (by decide) ?_
      rfl
    · have hj : 6 * j + 6 ≤ L := by
        have c24 : ¬ nI L - nI 6 < nI (6 * j) := c24
        rw [fa_lt, pk_sub_toInt (by omega) (by decide), nI_toInt (by omega)] at c24
        omega
      refine aw_aload_n d_law_27 rfl ?_
      refine aw_iload_n d_law_28 rfl ?_
      refine aw_ialoadX d_law_29 rfl (vp_in_nI (by omega) (by omega)) ?_
      refine aw_bipush (v := nI 63) d_law_30 (by decide) ?_
      refine aw_iand d_law_32 ?_
      rcases ab_sw ((xs (nI (6 * j)).toNatClampNeg) &&& (nI 63)) 32 (by decide) with c33 | ⟨j33, hj33, ej33⟩
      · refine aw_tableOut (tgt := 1215) d_law_33 c33 (by decide) ?_
        exact nxt hh m S us ⟨li.1, li.2.1.up1 (by omega), li.2.2.1, by have := li.2.2.2.1; omega, by have := li.2.2.2.2; omega⟩
      · match j33, hj33, ej33 with
        | 0, _, ej33 =>
          rw [ej33]
          refine aw_tableIn (tgt := 180) (off := 147) d_law_33 ⟨by decide, by decide⟩ (by decide) (by decide) ?_
          exact lc_0 l hL hj li nxt
        | 1, _, ej33 =>
          rw [ej33]
          refine aw_tableIn (tgt := 223) (off := 190) d_law_33 ⟨by decide, by decide⟩ (by decide) (by decide) ?_
          exact lc_1 l hL hj li nxt
        | 2, _, ej33 =>
          rw [ej33]
          refine aw_tableIn (tgt := 256) (off := 223) d_law_33 ⟨by decide, by decide⟩ (by decide) (by decide) ?_
          exact lc_2 l hL hj li nxt
        | 3, _, ej33 =>
          rw [ej33]
          refine aw_tableIn (tgt := 289) (off := 256) d_law_33 ⟨by decide, by decide⟩ (by decide) (by decide) ?_
          exact lc_3 l hL hj li nxt
        | 4, _, ej33 =>
          rw [ej33]
          refine aw_tableIn (tgt := 332) (off := 299) d_law_33 ⟨by decide, by decide⟩ (by decide) (by decide) ?_
          exact lc_4 l hL hj li nxt
        | 5, _, ej33 =>
          rw [ej33]
          refine aw_tableIn (tgt := 381) (off := 348) d_law_33 ⟨by decide, by decide⟩ (by decide) (by decide) ?_
          exact lc_5 l hL hj li nxt
        | 6, _, ej33 =>
          rw [ej33]
          refine aw_tableIn (tgt := 424) (off := 391) d_law_33 ⟨by decide, by decide⟩ (by decide) (by decide) ?_
          exact lc_6 l hL hj li nxt
        | 7, _, ej33 =>
          rw [ej33]
          refine aw_tableIn (tgt := 457) (off := 424) d_law_33 ⟨by decide, by decide⟩ (by decide) (by decide) ?_
          exact lc_7 l hL hj li nxt
        | 8, _, ej33 =>
          rw [ej33]
          refine aw_tableIn (tgt := 490) (off := 457) d_law_33 ⟨by decide, by decide⟩ (by decide) (by decide) ?_
          exact lc_8 l hL hj li nxt
        | 9, _, ej33 =>
          rw [ej33]
          refine aw_tableIn (tgt := 513) (off := 480) d_law_33 ⟨by decide, by decide⟩ (by decide) (by decide) ?_
          exact lc_9 l hL hj li nxt
        | 10, _, ej33 =>
          rw [ej33]
          refine aw_tableIn (tgt := 536) (off := 503) d_law_33 ⟨by decide, by decide⟩ (by decide) (by decide) ?_
          exact lc_10 l hL hj li nxt
        | 11, _, ej33 =>
          rw [ej33]
          refine aw_tableIn (tgt := 549) (off := 516) d_law_33 ⟨by decide, by decide⟩ (by decide) (by decide) ?_
          exact lc_11 l hL hj li nxt
        | 12, _, ej33 =>
          rw [ej33]
          refine aw_tableIn (tgt := 562) (off := 529) d_law_33 ⟨by decide, by decide⟩ (by decide) (by decide) ?_
          exact lc_12 l hL hj li nxt
        | 13, _, ej33 =>
          rw [ej33]
          refine aw_tableIn (tgt := 585) (off := 552) d_law_33 ⟨by decide, by decide⟩ (by decide) (by decide) ?_
          exact lc_13 l hL hj li nxt
        | 14, _, ej33 =>
          rw [ej33]
          refine aw_tableIn (tgt := 608) (off := 575) d_law_33 ⟨by decide, by decide⟩ (by decide) (by decide) ?_
          exact lc_14 l hL hj li nxt
        | 15, _, ej33 =>
          rw [ej33]
          refine aw_tableIn (tgt := 671) (off := 638) d_law_33 ⟨by decide, by decide⟩ (by decide) (by decide) ?_
          exact lc_15 l hL hj li nxt
        | 16, _, ej33 =>
          rw [ej33]
          refine aw_tableIn (tgt := 684) (off := 651) d_law_33 ⟨by decide, by decide⟩ (by decide) (by decide) ?_
          exact lc_16 l hL hj li nxt
        | 17, _, ej33 =>
          rw [ej33]
          refine aw_tableIn (tgt := 697) (off := 664) d_law_33 ⟨by decide, by decide⟩ (by decide) (by decide) ?_
          exact lc_17 l hL hj li nxt
        | 18, _, ej33 =>
          rw [ej33]
          refine aw_tableIn (tgt := 730) (off := 697) d_law_33 ⟨by decide, by decide⟩ (by decide) (by decide) ?_
          exact lc_18 l hL hj li nxt
        | 19, _, ej33 =>
          rw [ej33]
          refine aw_tableIn (tgt := 743) (off := 710) d_law_33 ⟨by decide, by decide⟩ (by decide) (by decide) ?_
          exact lc_19 l hL hj li nxt
        | 20, _, ej33 =>
          rw [ej33]
          refine aw_tableIn (tgt := 766) (off := 733) d_law_33 ⟨by decide, by decide⟩ (by decide) (by decide) ?_
          exact lc_20 l hL hj li nxt
        | 21, _, ej33 =>
          rw [ej33]
          refine aw_tableIn (tgt := 789) (off := 756) d_law_33 ⟨by decide, by decide⟩ (by decide) (by decide) ?_
          exact lc_21 l hL hj li nxt
        | 22, _, ej33 =>
          rw [ej33]
          refine aw_tableIn (tgt := 822) (off := 789) d_law_33 ⟨by decide, by decide⟩ (by decide) (by decide) ?_
          exact lc_22 l hL hj li nxt
        | 23, _, ej33 =>
          rw [ej33]
          refine aw_tableIn (tgt := 865) (off := 832) d_law_33 ⟨by decide, by decide⟩ (by decide) (by decide) ?_
          exact lc_23 l hL hj li nxt
        | 24, _, ej33 =>
          rw [ej33]
          refine aw_tableIn (tgt := 918) (off := 885) d_law_33 ⟨by decide, by decide⟩ (by decide) (by decide) ?_
          exact lc_24 l hL hj li nxt
        | 25, _, ej33 =>
          rw [ej33]
          refine aw_tableIn (tgt := 941) (off := 908) d_law_33 ⟨by decide, by decide⟩ (by decide) (by decide) ?_
          exact lc_25 l hL hj li nxt
        | 26, _, ej33 =>
          rw [ej33]
          refine aw_tableIn (tgt := 964) (off := 931) d_law_33 ⟨by decide, by decide⟩ (by decide) (by decide) ?_
          exact lc_26 l hL hj li nxt
        | 27, _, ej33 =>
          rw [ej33]
          refine aw_tableIn (tgt := 1007) (off := 974) d_law_33 ⟨by decide, by decide⟩ (by decide) (by decide) ?_
          exact lc_27 l hL hj li nxt
        | 28, _, ej33 =>
          rw [ej33]
          refine aw_tableIn (tgt := 1020) (off := 987) d_law_33 ⟨by decide, by decide⟩ (by decide) (by decide) ?_
          exact lc_28 l hL hj li nxt
        | 29, _, ej33 =>
          rw [ej33]
          refine aw_tableIn (tgt := 1033) (off := 1000) d_law_33 ⟨by decide, by decide⟩ (by decide) (by decide) ?_
          exact lc_29 l hL hj li nxt
        | 30, _, ej33 =>
          rw [ej33]
          refine aw_tableIn (tgt := 1076) (off := 1043) d_law_33 ⟨by decide, by decide⟩ (by decide) (by decide) ?_
          exact lc_30 l hL hj li nxt
        | 31, _, ej33 =>
          rw [ej33]
          refine aw_tableIn (tgt := 1099) (off := 1066) d_law_33 ⟨by decide, by decide⟩ (by decide) (by decide) ?_
          exact lc_31 l hL hj li nxt
        | 32, _, ej33 =>
          rw [ej33]
          refine aw_tableIn (tgt := 1152) (off := 1119) d_law_33 ⟨by decide, by decide⟩ (by decide) (by decide) ?_
          exact lc_32 l hL hj li nxt
        | k + 33, hj33, _ => exact absurd hj33 (by omega)
theorem law_go (l : Launch) {L : Nat} {xs : Nat → Int32} (hL : L ≤ 384) : ab_W Y_law (some (L, xs)) l (fun r _ _ => r = some (.int 1)) 0 [some (.ref 0), none, none, none] [] 0 (fun _ => ab_dead) (0, 0) := by
  refine aw_new (fs := [.null, .null, .int 0, .null, .null, .null, .null, .null, .null, .null, .null, .null]) d_law_0 cl_Coat ⟨k_Law_7, ins_Coat, ini_Coat⟩ (by decide) (fun _ => rfl) ⟨by decide, by decide⟩ ?_
  refine aw_dup d_law_3 rfl ?_
  refine aw_invi (a := 1) d_law_4 k_Law_9 ok_Coat_init rfl rfl rfl (Nat.le_of_ble_eq_true rfl) ⟨Nat.le_of_ble_eq_true rfl, Nat.le_of_ble_eq_true rfl⟩ (c_Coat_init (V := VX) rfl) (fun r m2 h1 z => ?_)
  obtain ⟨rfl, rfl, ⟨p0, p1, p2, p3, p4, p5, p6, p7, p8⟩, hf1⟩ := z
  show ab_W _ _ _ _ 7 _ [.ref 1] _ _ _
  refine aw_astore_n (L' := [some (.ref 0), some (.ref 1), none, none]) d_law_7 ⟨by decide, rfl⟩ rfl ?_
  refine aw_new (fs := [.int 0, .null, .null, .null, .null, .null, .null, .null, .int 0, .null, .null, .int 0, .int 0, .int 0, .int 0, .null, .null, .int 0, .null, .null, .null, .null, .null, .null, .null, .int 0, .int 0, .null, .null, .int 0, .int 0, .int 0, .null, .null, .int 0, .null, .null, .null, .null, .null, .null, .int 0, .null, .null, .null, .null]) d_law_8 cl_Model ⟨k_Law_10, ins_Model, ini_Model⟩ (by decide) (fun _ => rfl) ⟨by decide, by decide⟩ ?_
  refine aw_dup d_law_11 rfl ?_
  refine aw_invi (a := 56) d_law_12 k_Law_12 ok_M_init rfl rfl rfl (Nat.le_of_ble_eq_true rfl) ⟨Nat.le_of_ble_eq_true rfl, Nat.le_of_ble_eq_true rfl⟩ (c_M_init (V := VX) rfl) (fun r m2 h2 z => ?_)
  obtain ⟨rfl, rfl, hM, hf2⟩ := z
  show ab_W _ _ _ _ 15 _ [.ref 56] _ _ _
  have q : ∀ k, k < 56 → h2 k = h1 k := fun k hk => (hf2 k (Or.inl hk)).trans (ab_set_ne (by omega))
  have hX : PX VX 88 h2 S0 := ⟨p0.fr (fun k _ _ => q k (by omega)), p1.fr (fun k _ _ => q k (by omega)), p2.fr (fun k _ _ => q k (by omega)), p3.fr (fun k _ _ => q k (by omega)), p4.fr (fun k _ _ => q k (by omega)), p5.fr (fun k _ _ => q k (by omega)), p6.fr (fun k _ _ => q k (by omega)), Nat.le_refl _, p8.fr (q 55 (by omega)), fun _ => none, (q 54 (by omega)).trans p7, fun k _ q e => by cases e⟩
  refine aw_astore_n (L' := [some (.ref 0), some (.ref 1), some (.ref 56), none]) d_law_15 ⟨by decide, rfl⟩ rfl ?_
  refine aw_iconst (v := nI 0) d_law_16 (by decide) ?_
  refine aw_istore_n (L' := [some (.ref 0), some (.ref 1), some (.ref 56), some (.int (nI 0))]) d_law_17 ⟨by decide, rfl⟩ rfl ?_
  exact law_loop l hL 65 0 88 h2 S0 _ (by omega) ⟨hX, hM, S0_ok, Nat.le_of_ble_eq_true rfl, Nat.le_of_ble_eq_true rfl⟩
