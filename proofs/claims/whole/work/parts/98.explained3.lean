theorem Tb.iv_ {n : Nat} (hn : n ≤ 6) {x y : Nat → Nat} (hx : Tb n x) (hy : Tb n y) : Tb n (fun k => iv x (y k)) := ⟨hx.1.iv.comp hy.1, fun k hk => by show iv x (y k) = k; rw [hy.2 k hk, iv_fix hx.1 hn hx.2 k hk]⟩
theorem lft_t {n K : Nat} (hn : n ≤ 6) (h0 : 0 < K) (hK : K < 8) {x : Nat → Nat} (hx : Tb n x) : ∀ k, k ≤ DD n K x → DD n K (lft n K k x) + k = DD n K x ∧ Tb n (lft n K k x)
  | 0, _ => ⟨Nat.add_zero _, hx⟩
  | k + 1, hk => by
    obtain ⟨i1, i2⟩ := lft_t hn h0 hK hx k (by omega)
    obtain ⟨f1, f2, f3, f4⟩ := ftw_t hn h0 hK i2 (by omega)
    rw [lft_s]
    exact ⟨by omega, i2.ren hn f2⟩
theorem c_tableNow {m : Nat} {h : ab_H} {N : NS} {me mi ve la : Int32} {tl : Nat} {at_ wr : Int32} {fe : Nat} {kp : Bool} (hM : h 56 = oM (N_n N) (N_ns N) (N_ra N) (N_se N) me mi (nI (TT (N_n N))) ve la tl at_ wr fe kp) (hP : PMn h N) (ok : N_ok N) {g2 g3 : Nat → Int32} (h68 : h 68 = .inl (4320, g2)) (h69 : h 69 = .inl (46656, g3)) (hly : LY (N_n N) (6 ^ N_n N) g2 g3) : ab_D Y_M_tableNow [.ref 56] m h (some (.int (nI (num (N_n N) (N_t N))))) m (h) := by
  refine ab_C.of (L := [some (.ref 56)]) rfl rfl (Nat.le_of_ble_eq_true rfl) (fun l => ?_)
  obtain ⟨⟨gx, hx, ax⟩, ⟨gy, hy, ay⟩, ⟨gm, hm, am⟩, ⟨gh, hh, ah⟩, ⟨gl, hl, al⟩, ⟨gw, hw, aw⟩, ⟨ga, ha0, aa⟩, ⟨gi, hi, ai⟩, ⟨gj, hj0, aj⟩, ⟨gf, hf0, af⟩⟩ := id hP
  have hn6 : N_n N ≤ 6 := ok.1
  have hns : N_ns N ≤ 4 := ok.2.2.2.2.2.2.2.2.1
  have hw6 := ok.w6
  have aw : ∀ k, k < N_n N → gw k = nI (N_w N / 2 ^ k % 2) := aw
  have bx := ok.2.2.2.2.2.1
  have bi := ok.2.2.2.2.2.2.2.2.2.1
  have hTb : Tb (N_n N) (N_t N) := ⟨ok.pm, ok.2.2.1⟩
  refine aw_aload_n d_M_tableNow_0 rfl ?_
  refine aw_get (k := 19) d_M_tableNow_1 cl_Model k_M_54 (by decide) hM rfl ?_
  refine aw_aload_n d_M_tableNow_4 rfl ?_
  refine aw_get (k := 4) d_M_tableNow_5 cl_Model k_M_19 (by decide) hM rfl ?_
  refine aw_iconst (v := nI 0) d_M_tableNow_8 (by decide) ?_
  refine aw_aload_n d_M_tableNow_9 rfl ?_
  refine aw_get (k := 0) d_M_tableNow_10 cl_Model k_M_118 (by decide) hM rfl ?_
  refine aw_s0i d_M_tableNow_13 k_M_223 ok_M_codeOf rfl ⟨rfl, rfl⟩ (c_codeOf (A := 60) (NN := 6) (fo := 0) (n := N_n N) hh (by decide) (by omega) (x := N_t N) (fun k hk => by rw [Nat.zero_add]; exact ah k hk)) rfl rfl (Nat.le_of_ble_eq_true rfl) ?_
  refine aw_ialoadN d_M_tableNow_16 h69 (cd_46 hn6 hTb) (by decide) ?_
  refine aw_ireturn d_M_tableNow_17 rfl rfl ?_
  exact ⟨by rw [hly.num hn6 hTb.1 hTb.2], rfl, rfl⟩
theorem c_between {m : Nat} {h : ab_H} {N : NS} {me mi ve la : Int32} {tl : Nat} {at_ wr : Int32} {fe : Nat} {kp : Bool} (hM : h 56 = oM (N_n N) (N_ns N) (N_ra N) (N_se N) me mi (nI (TT (N_n N))) ve la tl at_ wr fe kp) (ok : N_ok N) {g2 g3 : Nat → Int32} (h68 : h 68 = .inl (4320, g2)) (h69 : h 69 = .inl (46656, g3)) (hly : LY (N_n N) (6 ^ N_n N) g2 g3) {g7 : Nat → Int32} (h72 : h 72 = .inl (6, g7)) {x y : Nat → Nat} (hx : Tb (N_n N) x) (hy : Tb (N_n N) y) : ab_C Y_M_between [.ref 56, .int (nI (num (N_n N) x)), .int (nI (num (N_n N) y))] m h (fun r m2 h2 => r = some (.int (nI (num (N_n N) (fun k => iv x (y k))))) ∧ m2 = m ∧ ∃ g7 : Nat → Int32, h2 = ab_set h 72 (.inl (6, g7))) := by
  have hn6 := ok.1
  have hTT := (TT_le hn6).1
  have nx := (hx.nu hn6).1
  have ny := (hy.nu hn6).1
  refine ab_C.of (L := [some (.ref 56), some (.int (nI (num (N_n N) x))), some (.int (nI (num (N_n N) y))), none, none]) rfl rfl (Nat.le_of_ble_eq_true rfl) (fun l => ?_)
  have loopk : ∀ kf k (g7 : Nat → Int32), k + kf = N_n N → (∀ q, q < k → g7 q = nI (iv x (y q))) → ab_W Y_M_between none l (fun r m2 h2 => r = some (.int (nI (num (N_n N) (fun k => iv x (y k))))) ∧ m2 = m ∧ ∃ g7 : Nat → Int32, h2 = ab_set h 72 (.inl (6, g7))) 2 [some (.ref 56), some (.int (nI (num (N_n N) x))), some (.int (nI (num (N_n N) y))), some (.int (nI (k))), none] [] m (ab_set h 72 (.inl (6, g7))) (0, 0) := by
    intro kf
    induction kf with
    | zero =>
      intro k g7 hk e0
      have hkn : N_n N = k := by omega
      subst hkn
      refine aw_iload_n d_M_between_2 rfl ?_
      refine aw_aload_n d_M_between_3 rfl ?_
      refine aw_get (k := 0) d_M_between_4 cl_Model k_M_118 (by decide) hM rfl ?_
      refine aw_icmp_ge (tgt := 77) d_M_between_7 (by decide) (fun c7 => ?_) (fun c7 => ?_)
      · refine aw_aload_n d_M_between_77 rfl ?_
        refine aw_get (k := 19) d_M_between_78 cl_Model k_M_54 (by decide) hM rfl ?_
        refine aw_aload_n d_M_between_81 rfl ?_
        refine aw_get (k := 22) d_M_between_82 cl_Model k_M_63 (by decide) hM rfl ?_
        refine aw_iconst (v := nI 0) d_M_between_85 (by decide) ?_
        refine aw_aload_n d_M_between_86 rfl ?_
        refine aw_get (k := 0) d_M_between_87 cl_Model k_M_118 (by decide) hM rfl ?_
        refine aw_s0i d_M_between_90 k_M_223 ok_M_codeOf rfl ⟨rfl, rfl⟩ (c_codeOf (h := ab_set h 72 (.inl (6, g7))) (A := 72) (NN := 6) (fo := 0) (n := N_n N) rfl (by decide) (by omega) (x := fun k => iv x (y k)) (fun k hk => by rw [Nat.zero_add]; exact e0 k hk)) rfl rfl (Nat.le_of_ble_eq_true rfl) ?_
        refine aw_ialoadN d_M_between_93 h69 (cd_46 hn6 (hx.iv_ hn6 hy)) (by decide) ?_
        refine aw_ireturn d_M_between_94 rfl rfl ?_
        exact ⟨by rw [hly.num hn6 (hx.iv_ hn6 hy).1 (hx.iv_ hn6 hy).2], rfl, g7, rfl⟩
      · exact absurd (Int32.le_refl _) c7
    | succ kf ihk =>
      intro k g7 hk e0
      refine aw_iload_n d_M_between_2 rfl ?_
      refine aw_aload_n d_M_between_3 rfl ?_
      refine aw_get (k := 0) d_M_between_4 cl_Model k_M_118 (by decide) hM rfl ?_
      refine aw_icmp_ge (tgt := 77) d_M_between_7 (by decide) (fun c7 => ?_) (fun c7 => ?_)
      · exact absurd c7 (nI_ge (by omega) (by omega))
      · refine aw_iconst (v := nI 0) d_M_between_10 (by decide) ?_
        refine aw_istore (L' := [some (.ref 56), some (.int (nI (num (N_n N) x))), some (.int (nI (num (N_n N) y))), some (.int (nI (k))), some (.int (nI 0))]) d_M_between_11 ⟨by decide, rfl⟩ rfl ?_
        have yk := hy.1.1 k (by omega)
        have loopo : ∀ ke o (g7 : Nat → Int32), o + ke = N_n N → (∀ q, q < k → g7 q = nI (iv x (y q))) → (iv x (y k) < o → g7 k = nI (iv x (y k))) → ab_W Y_M_between none l (fun r m2 h2 => r = some (.int (nI (num (N_n N) (fun k => iv x (y k))))) ∧ m2 = m ∧ ∃ g7 : Nat → Int32, h2 = ab_set h 72 (.inl (6, g7))) 13 [some (.ref 56), some (.int (nI (num (N_n N) x))), some (.int (nI (num (N_n N) y))), some (.int (nI (k))), some (.int (nI (o)))] [] m (ab_set h 72 (.inl (6, g7))) (0, 0) := by
          intro ke
          induction ke with
          | zero =>
            intro o g7 ho e0 e1
            have hon : N_n N = o := by omega
            subst hon
            refine aw_iload d_M_between_13 rfl ?_
            refine aw_aload_n d_M_between_15 rfl ?_
            refine aw_get (k := 0) d_M_between_16 cl_Model k_M_118 (by decide) hM rfl ?_
            refine aw_icmp_ge (tgt := 71) d_M_between_19 (by decide) (fun c19 => ?_) (fun c19 => ?_)
            · refine aw_iinc (v := nI ((k) + 1)) (L' := [some (.ref 56), some (.int (nI (num (N_n N) x))), some (.int (nI (num (N_n N) y))), some (.int (nI ((k) + 1))), some (.int (nI (N_n N)))]) d_M_between_71 rfl (nI_1 _) ⟨by decide, rfl⟩ rfl ?_
              refine aw_goto (tgt := 2) d_M_between_74 (by decide) ?_
              exact aw_drop 4 (ihk (k + 1) g7 (by omega) (fun q hq => by
                by_cases e : q = k
                · subst e; exact e1 (iv_in hx.1 hn6 hx.2 (hy.1.in hn6 hy.2 (by omega)))
                · exact e0 q (by omega)))
            · exact absurd (Int32.le_refl _) c19
          | succ ke iho =>
            intro o g7 ho e0 e1
            refine aw_iload d_M_between_13 rfl ?_
            refine aw_aload_n d_M_between_15 rfl ?_
            refine aw_get (k := 0) d_M_between_16 cl_Model k_M_118 (by decide) hM rfl ?_
            refine aw_icmp_ge (tgt := 71) d_M_between_19 (by decide) (fun c19 => ?_) (fun c19 => ?_)
            · exact absurd c19 (nI_ge (by omega) (by omega))
            · refine aw_aload_n d_M_between_22 rfl ?_
              refine aw_get (k := 22) d_M_between_23 cl_Model k_M_63 (by decide) hM rfl ?_
              refine aw_iload_n d_M_between_26 rfl ?_
              refine aw_aload_n d_M_between_27 rfl ?_
              refine aw_get (k := 18) d_M_between_28 cl_Model k_M_50 (by decide) hM rfl ?_
              refine aw_bipush (v := nI 6) d_M_between_31 (by decide) ?_
              refine aw_iload_n d_M_between_33 rfl ?_
              refine aw_imul d_M_between_34 ?_
              refine aw_iload d_M_between_35 rfl ?_
              refine aw_iadd d_M_between_37 ?_
              rw [pk_mul, nI_add]
              refine aw_ialoadN d_M_between_38 h68 (by omega) (by decide) ?_
              rw [hly.row nx (show o < N_n N by omega), (hx.nu hn6).2]
              refine aw_aload_n d_M_between_39 rfl ?_
              refine aw_get (k := 18) d_M_between_40 cl_Model k_M_50 (by decide) hM rfl ?_
              refine aw_bipush (v := nI 6) d_M_between_43 (by decide) ?_
              refine aw_iload_n d_M_between_45 rfl ?_
              refine aw_imul d_M_between_46 ?_
              refine aw_iload_n d_M_between_47 rfl ?_
              refine aw_iadd d_M_between_48 ?_
              rw [pk_mul, nI_add]
              refine aw_ialoadN d_M_between_49 h68 (by omega) (by decide) ?_
              rw [hly.row ny (show k < N_n N by omega), (hy.nu hn6).2]
              refine aw_icmp_ne (tgt := 58) d_M_between_50 (by decide) (fun c50 => ?_) (fun c50 => ?_)
              · refine aw_aload_n d_M_between_58 rfl ?_
                refine aw_get (k := 22) d_M_between_59 cl_Model k_M_63 (by decide) hM rfl ?_
                refine aw_iload_n d_M_between_62 rfl ?_
                refine aw_ialoadN d_M_between_63 rfl (by omega) (by decide) ?_
                refine aw_iastoreN d_M_between_64 rfl (by omega) (by decide) ?_
                refine aw_iinc (v := nI ((o) + 1)) (L' := [some (.ref 56), some (.int (nI (num (N_n N) x))), some (.int (nI (num (N_n N) y))), some (.int (nI (k))), some (.int (nI ((o) + 1)))]) d_M_between_65 rfl (nI_1 _) ⟨by decide, rfl⟩ rfl ?_
                refine aw_goto (tgt := 13) d_M_between_68 (by decide) ?_
                rw [ab_set_set]
                first
                  | (refine iho (o + 1) _ (by omega) (fun q hq => by rw [pk_un (by omega)]; exact e0 q hq) (fun hlt => ?_)
                     rw [pk_us]
                     have ne : ¬ o = iv x (y k) := fun z => c50 (by rw [z, (iv_t hx.1 yk).1])
                     exact e1 (by omega))
                  | (refine iho (o + 1) _ (by omega) (fun q hq => by rw [pk_un (by omega)]; exact e0 q hq) (fun hlt => ?_)
                     rw [pk_us]
                     have xo := (nI_eq (by have := hx.1.1 o (by omega); omega) (by omega)).mp c50
                     rw [← xo, (iv_t hx.1 (show o < 6 by omega)).2.2])
              · refine aw_iload d_M_between_53 rfl ?_
                refine aw_goto (tgt := 64) d_M_between_55 (by decide) ?_
                refine aw_iastoreN d_M_between_64 rfl (by omega) (by decide) ?_
                refine aw_iinc (v := nI ((o) + 1)) (L' := [some (.ref 56), some (.int (nI (num (N_n N) x))), some (.int (nI (num (N_n N) y))), some (.int (nI (k))), some (.int (nI ((o) + 1)))]) d_M_between_65 rfl (nI_1 _) ⟨by decide, rfl⟩ rfl ?_
                refine aw_goto (tgt := 13) d_M_between_68 (by decide) ?_
                rw [ab_set_set]
                first
                  | (refine iho (o + 1) _ (by omega) (fun q hq => by rw [pk_un (by omega)]; exact e0 q hq) (fun hlt => ?_)
                     rw [pk_us]
                     have ne : ¬ o = iv x (y k) := fun z => c50 (by rw [z, (iv_t hx.1 yk).1])
                     exact e1 (by omega))
                  | (refine iho (o + 1) _ (by omega) (fun q hq => by rw [pk_un (by omega)]; exact e0 q hq) (fun hlt => ?_)
                     rw [pk_us]
                     have xo := (nI_eq (by have := hx.1.1 o (by omega); omega) (by omega)).mp c50
                     rw [← xo, (iv_t hx.1 (show o < 6 by omega)).2.2])
        exact loopo (N_n N) 0 g7 (by omega) e0 (fun z => absurd z (Nat.not_lt_zero _))
  refine aw_iconst (v := nI 0) d_M_between_0 (by decide) ?_
  refine aw_istore_n (L' := [some (.ref 56), some (.int (nI (num (N_n N) x))), some (.int (nI (num (N_n N) y))), some (.int (nI 0)), none]) d_M_between_1 ⟨by decide, rfl⟩ rfl ?_
  exact aw_heap (ab_set_eq (h := h) (a := 72) h72) (loopk (N_n N) 0 g7 (by omega) (fun q hq => absurd hq (Nat.not_lt_zero _)))
theorem y_explained {V : VV} {m c : Nat} {h : ab_H} {S : SS} (hM : PM V c h S) (ok : S_ok S) (hc : c < 900) (k w : Int32) : CM V Y_M_explained [.int k, .int w] m c h (fun r S2 => (r, S2) = sp_explained S k w) := by
  obtain ⟨⟨tab, la, at_, wr, ve, fs, ft, m0, m1, m2, m3, m4, m5, m6⟩, ⟨n0, n1, n2, n3, n4, n5, n6, n7, n8, n9⟩, q1, q2, q3, q4⟩ := id hM
  have hn6 : N_n (S_N S) ≤ 6 := ok.1.1
  have hnT := nI_toInt (show N_n (S_N S) < 2 ^ 31 by omega)
  obtain ⟨_, ⟨d1, h67⟩, ⟨d2, h68⟩, ⟨d3, h69⟩, _, _, ⟨d7, h72⟩, _, _, _, ⟨d8, h80⟩, ⟨d9, h81⟩, _⟩ := id q3
  have hTb : Tb (N_n (S_N S)) (N_t (S_N S)) := ⟨ok.1.pm, ok.1.2.2.1⟩
  have hTT := (TT_le hn6).1
  have w2 : (-2 : Int32).toInt = -2 := by decide
  have w1 : (-1 : Int32).toInt = -1 := by decide
  refine ab_C.of (L := [some (.ref 56), some (.int k), some (.int w), none, none, none, none, none, none, none, none, none]) rfl rfl (Nat.le_of_ble_eq_true rfl) (fun l => ?_)
  refine aw_iload_n d_M_explained_0 rfl ?_
  refine aw_i2l d_M_explained_1 ?_
  refine aw_lconst (v := lN 1) d_M_explained_2 (by decide) ?_
  refine aw_ldc2 (v := lN 7) d_M_explained_3 k_M_144 ?_
  refine aw_s0i d_M_explained_6 k_M_121 ok_M_in rfl ⟨rfl, rfl⟩ (c_in k.toInt64 (lN 1) (lN 7)) rfl rfl (Nat.le_of_ble_eq_true rfl) ?_
  refine aw_if_eq (tgt := 18) d_M_explained_9 (by decide) (fun c9 => ?_) (fun c9 => ?_)
  · refine aw_iconst (v := (-1)) d_M_explained_18 (by decide) ?_
    refine aw_ireturn d_M_explained_19 rfl rfl ?_
    refine ⟨_, S, rfl, ?_, ⟨⟨tab, la, at_, wr, ve, fs, ft, m0, by omega, by omega, m3, m4, m5, m6⟩, ⟨n0, n1, n2, n3, n4, n5, n6, n7, n8, n9⟩, q1, q2, q3, q4⟩, rfl, fun k _ => rfl⟩
    unfold sp_explained
    rw [if_neg]
    intro z
    first
      | (have y := of_decide_eq_false (ab_bl_0.mp c9)
         rw [i64_toInt, tl1, tl7] at y
         exact y z.1)
      | (rw [fa_le, w2] at c15; exact c15 z.2)
  · refine aw_iload_n d_M_explained_12 rfl ?_
    refine aw_bipush (v := (-2)) d_M_explained_13 (by decide) ?_
    refine aw_icmp_ge (tgt := 20) d_M_explained_15 (by decide) (fun c15 => ?_) (fun c15 => ?_)
    · have irk : ir k 1 7 := by
        have y := of_decide_eq_true (ab_bl_1.mp c9)
        rw [i64_toInt, tl1, tl7] at y
        exact y
      have irw : -2 ≤ w.toInt := by rw [fa_le, w2] at c15; exact c15
      obtain ⟨K, hK7, rfl⟩ := irC (x := k) (n := 7) ⟨by have := irk.1; omega, irk.2⟩
      have h0 : 0 < K := by have := irk.1; rw [nI_toInt (by omega)] at this; omega
      have hK : K < 8 := by omega
      have dt := DD_t hn6 h0 hK hTb
      refine aw_aload_n d_M_explained_20 rfl ?_
      refine aw_get (k := 0) d_M_explained_21 cl_Model k_M_118 (by decide) m0 rfl ?_
      refine aw_if_ne (tgt := 30) d_M_explained_24 (by decide) (fun c24 => ?_) (fun c24 => ?_)
      · have hn0 : ¬ N_n (S_N S) = 0 := fun z => c24 (by rw [z]; rfl)
        refine aw_aload_n d_M_explained_30 rfl ?_
        refine aw_aload_n d_M_explained_31 rfl ?_
        refine aw_get (k := 0) d_M_explained_32 cl_Model k_M_118 (by decide) m0 rfl ?_
        refine aw_v0 (a := 56) d_M_explained_35 k_M_226 ok_M_lays rfl ⟨rfl, rfl⟩ cl_Model m0 (c_lays m0 hn6 h67 h68 h69) rfl rfl (Nat.le_of_ble_eq_true rfl) (fun r m2 h2 q => ?_)
        obtain ⟨rfl, em, g1, g2, g3, rfl, hly⟩ := q
        rw [em]
        show ab_W _ _ _ _ 38 _ [] _ _ _
        refine aw_aload_n d_M_explained_38 rfl ?_
        refine aw_v0i (a := 56) d_M_explained_39 k_M_251 ok_M_tableNow rfl ⟨rfl, rfl⟩ cl_Model rfl (c_tableNow (h := HL h (oM (N_n (S_N S)) (N_ns (S_N S)) (N_ra (S_N S)) (N_se (S_N S)) (N_me (S_N S)) (N_mi (S_N S)) (nI (TT (N_n (S_N S)))) (nI ve) la (S_tl S) at_ wr (N_fe (S_N S)) (S_K S).isSome) g1 g2 g3) (N := S_N S) rfl ⟨n0, n1, n2, n3, n4, n5, n6, n7, n8, n9⟩ ok.1 (g2 := g2) (g3 := g3) rfl rfl hly) rfl rfl (Nat.le_of_ble_eq_true rfl) ?_
        refine aw_istore_n (L' := [some (.ref 56), some (.int (nI K)), some (.int w), some (.int (nI (num (N_n (S_N S)) (N_t (S_N S))))), none, none, none, none, none, none, none, none]) d_M_explained_42 ⟨by decide, rfl⟩ rfl ?_
        refine aw_aload_n d_M_explained_43 rfl ?_
        refine aw_iload_n d_M_explained_44 rfl ?_
        refine aw_iconst (v := nI 0) d_M_explained_45 (by decide) ?_
        refine aw_v0 (a := 56) d_M_explained_46 k_M_307 ok_M_spreads rfl ⟨rfl, rfl⟩ cl_Model rfl (c_spreads (h := HL h (oM (N_n (S_N S)) (N_ns (S_N S)) (N_ra (S_N S)) (N_se (S_N S)) (N_me (S_N S)) (N_mi (S_N S)) (nI (TT (N_n (S_N S)))) (nI ve) la (S_tl S) at_ wr (N_fe (S_N S)) (S_K S).isSome) g1 g2 g3) (N := S_N S) rfl ok.1 (g2 := g2) (g3 := g3) rfl rfl hly (g7 := d7) (gf := d8) (gr := d9) h72 h80 h81 h0 hK) rfl rfl (Nat.le_of_ble_eq_true rfl) (fun r m2 h2 q => ?_)
        obtain ⟨rfl, em, g7, gf, gr, rfl, hall⟩ := q
        rw [em]
        show ab_W _ _ _ _ 49 _ [] _ _ _
        refine aw_aload_n d_M_explained_49 rfl ?_
        refine aw_get (k := 36) d_M_explained_50 cl_Model k_M_91 (by decide) rfl rfl ?_
        refine aw_iload_n d_M_explained_53 rfl ?_
        refine aw_ialoadN d_M_explained_54 rfl (Nat.lt_of_lt_of_le (hTb.nu hn6).1 hTT) (by decide) ?_
        rw [(hall _ hTb).1]
        refine aw_istore (L' := [some (.ref 56), some (.int (nI K)), some (.int w), some (.int (nI (num (N_n (S_N S)) (N_t (S_N S))))), some (.int (nI (DD (N_n (S_N S)) K (N_t (S_N S))))), none, none, none, none, none, none, none]) d_M_explained_55 ⟨by decide, rfl⟩ rfl ?_
        refine aw_iload d_M_explained_57 rfl ?_
        refine aw_ldc (v := nI 1000000000) d_M_explained_59 k_M_242 ?_
        refine aw_icmp_eq (tgt := 70) d_M_explained_61 (by decide) (fun c61 => ?_) (fun c61 => ?_)
        · have := (nI_eq (by omega) (by decide)).mp c61
          omega
        · refine aw_iload_n d_M_explained_64 rfl ?_
          refine aw_iload d_M_explained_65 rfl ?_
          refine aw_icmp_lt (tgt := 73) d_M_explained_67 (by decide) (fun c67 => ?_) (fun c67 => ?_)
          · refine aw_iload_n d_M_explained_73 rfl ?_
            refine aw_if_ge (tgt := 94) d_M_explained_74 (by decide) (fun c74 => ?_) (fun c74 => ?_)
            · obtain ⟨w, hw31, rfl⟩ : ∃ j, j < 2 ^ 31 ∧ w = nI j := nI_of (Int32.not_lt.mpr c74)
              have hwd : w < DD (N_n (S_N S)) K (N_t (S_N S)) := (nI_ltI hw31 (by omega)).mp c67
              have wn1 : ¬ nI w = -1 := fun z => by have := congrArg Int32.toInt z; rw [nI_toInt hw31, w1] at this; omega
              have wn2 : ¬ nI w = -2 := fun z => by have := congrArg Int32.toInt z; rw [nI_toInt hw31, w2] at this; omega
              have hdk : ∀ k, k ≤ w → DD (N_n (S_N S)) K (lft (N_n (S_N S)) K k (N_t (S_N S))) + k = DD (N_n (S_N S)) K (N_t (S_N S)) := fun k hk => (lft_t hn6 h0 hK hTb k (by omega)).1
              refine aw_iconst (v := nI 0) d_M_explained_94 (by decide) ?_
              refine aw_istore (L' := [some (.ref 56), some (.int (nI K)), some (.int (nI w)), some (.int (nI (num (N_n (S_N S)) (N_t (S_N S))))), some (.int (nI (DD (N_n (S_N S)) K (N_t (S_N S))))), some (.int (nI 0)), none, none, none, none, none, none]) d_M_explained_95 ⟨by decide, rfl⟩ rfl ?_
              refine aw_bipush (v := (-4)) d_M_explained_97 (by decide) ?_
              refine aw_istore (L' := [some (.ref 56), some (.int (nI K)), some (.int (nI w)), some (.int (nI (num (N_n (S_N S)) (N_t (S_N S))))), some (.int (nI (DD (N_n (S_N S)) K (N_t (S_N S))))), some (.int (nI 0)), some (.int (-4)), none, none, none, none, none]) d_M_explained_99 ⟨by decide, rfl⟩ rfl ?_
              refine aw_iconst (v := nI 0) d_M_explained_101 (by decide) ?_
              refine aw_istore (L' := [some (.ref 56), some (.int (nI K)), some (.int (nI w)), some (.int (nI (num (N_n (S_N S)) (N_t (S_N S))))), some (.int (nI (DD (N_n (S_N S)) K (N_t (S_N S))))), some (.int (nI 0)), some (.int (-4)), some (.int (nI 0)), none, none, none, none]) d_M_explained_102 ⟨by decide, rfl⟩ rfl ?_
              have loopk : ∀ kk k (g7 : Nat → Int32) (z : Nat → Nat) (nu : Int32), k + kk = (w + 1) → Tb (N_n (S_N S)) z → (fun v => iv z (N_t (S_N S) v)) = (lft (N_n (S_N S)) K k (N_t (S_N S))) → (0 < k → nu = nI (ftw (N_n (S_N S)) K (lft (N_n (S_N S)) K (k - 1) (N_t (S_N S))))) → ab_W Y_M_explained none l (fun r m2 h2 => ∃ (v : Int32) (S2 : SS), r = some (.int v) ∧ (v, S2) = sp_explained S (nI K) (nI w) ∧ PM V (c + 1) h2 S2 ∧ m2 = m ∧ ∀ k, (k < 56 ∨ 88 < k) → h2 k = h k) 104 [some (.ref 56), some (.int (nI K)), some (.int (nI w)), some (.int (nI (num (N_n (S_N S)) (N_t (S_N S))))), some (.int (nI (DD (N_n (S_N S)) K (N_t (S_N S))))), some (.int (nI (num (N_n (S_N S)) z))), some (.int nu), some (.int (nI (k))), none, none, none, none] [] m (HE (HL h (oM (N_n (S_N S)) (N_ns (S_N S)) (N_ra (S_N S)) (N_se (S_N S)) (N_me (S_N S)) (N_mi (S_N S)) (nI (TT (N_n (S_N S)))) (nI ve) la (S_tl S) at_ wr (N_fe (S_N S)) (S_K S).isSome) g1 g2 g3) g7 gf gr) (0, 0) := by
                intro kk
                induction kk with
                | zero =>
                  intro k g7 z nu hk hz hl hnu
                  have hkn : (w + 1) = k := by omega
                  subst hkn
                  refine aw_iload d_M_explained_104 rfl ?_
                  refine aw_iload_n d_M_explained_106 rfl ?_
                  refine aw_icmp_gt (tgt := 278) d_M_explained_107 (by decide) (fun c107 => ?_) (fun c107 => ?_)
                  · refine aw_iload d_M_explained_278 rfl ?_
                    refine aw_ireturn d_M_explained_280 rfl rfl ?_
                    refine ⟨_, S, rfl, ?_, PM.mk2 hc (tab2 := nI (TT (N_n (S_N S)))) (la := la) (at_ := at_) (wr := wr) (ve := ve) (fs := fs) (ft := ft) rfl m1 m3 m4 m5 m6 ⟨n0, n1, n2, n3, n4, n5, n6, n7, n8, n9⟩ q1 q2 q4 (fun k h1 h2 h3 h4 => ?_) ⟨q3.1, ⟨g1, rfl⟩, ⟨g2, rfl⟩, ⟨g3, rfl⟩, q3.2.2.2.2.1, q3.2.2.2.2.2.1, ⟨g7, rfl⟩, q3.2.2.2.2.2.2.2.1, q3.2.2.2.2.2.2.2.2.1, q3.2.2.2.2.2.2.2.2.2.1, ⟨gf, rfl⟩, ⟨gr, rfl⟩, q3.2.2.2.2.2.2.2.2.2.2.2.2⟩, rfl, fun k hk => ?_⟩
                    rotate_left
                    · unfold scr at h3
                      rw [HE_ne (by omega) (by omega) (by omega), HL_ne (by omega) (by omega)]
                    · rw [HE_ne (by omega) (by omega) (by omega), HL_ne (by omega) (by omega)]
                    unfold sp_explained
                    rw [if_pos ⟨irk, irw⟩, if_neg (by omega), cl_nI (by omega)]
                    rw [if_neg wn1, if_neg wn2, if_pos (by rw [nI_toInt hw31]; omega), cl_nI hw31, hnu (by omega), Nat.add_sub_cancel]
                  · exact absurd (nI_lt (by omega) (by omega)) c107
                | succ kk ihk =>
                  intro k g7 z nu hk hz hl hnu
                  refine aw_iload d_M_explained_104 rfl ?_
                  refine aw_iload_n d_M_explained_106 rfl ?_
                  refine aw_icmp_gt (tgt := 278) d_M_explained_107 (by decide) (fun c107 => ?_) (fun c107 => ?_)
                  · exact absurd c107 (nI_nlt (by omega) (by omega))
                  · refine aw_bipush (v := (-4)) d_M_explained_110 (by decide) ?_
                    refine aw_istore (L' := [some (.ref 56), some (.int (nI K)), some (.int (nI w)), some (.int (nI (num (N_n (S_N S)) (N_t (S_N S))))), some (.int (nI (DD (N_n (S_N S)) K (N_t (S_N S))))), some (.int (nI (num (N_n (S_N S)) z))), some (.int (-4)), some (.int (nI (k))), none, none, none, none]) d_M_explained_112 ⟨by decide, rfl⟩ rfl ?_
                    refine aw_iload d_M_explained_114 rfl ?_
                    refine aw_istore (L' := [some (.ref 56), some (.int (nI K)), some (.int (nI w)), some (.int (nI (num (N_n (S_N S)) (N_t (S_N S))))), some (.int (nI (DD (N_n (S_N S)) K (N_t (S_N S))))), some (.int (nI (num (N_n (S_N S)) z))), some (.int (-4)), some (.int (nI (k))), some (.int (nI (num (N_n (S_N S)) z))), none, none, none]) d_M_explained_116 ⟨by decide, rfl⟩ rfl ?_
                    refine aw_iconst (v := nI 0) d_M_explained_118 (by decide) ?_
                    refine aw_istore (L' := [some (.ref 56), some (.int (nI K)), some (.int (nI w)), some (.int (nI (num (N_n (S_N S)) (N_t (S_N S))))), some (.int (nI (DD (N_n (S_N S)) K (N_t (S_N S))))), some (.int (nI (num (N_n (S_N S)) z))), some (.int (-4)), some (.int (nI (k))), some (.int (nI (num (N_n (S_N S)) z))), some (.int (nI 0)), none, none]) d_M_explained_119 ⟨by decide, rfl⟩ rfl ?_
                    have nz := (hz.nu hn6).1
                    have hlt : Tb (N_n (S_N S)) (lft (N_n (S_N S)) K k (N_t (S_N S))) := by rw [← hl]; exact hz.iv_ hn6 hTb
                    have hdl : DD (N_n (S_N S)) K (lft (N_n (S_N S)) K k (N_t (S_N S))) + k = DD (N_n (S_N S)) K (N_t (S_N S)) := hdk k (by omega)
                    obtain ⟨f1, f2, f3, f4⟩ := ftw_t hn6 h0 hK hlt (by omega)
                    have found : ∀ (g7 : Nat → Int32) (s : Nat) (v10 v11 : Option Value), s = (ftw (N_n (S_N S)) K (lft (N_n (S_N S)) K k (N_t (S_N S)))) → ab_W Y_M_explained none l (fun r m2 h2 => ∃ (v : Int32) (S2 : SS), r = some (.int v) ∧ (v, S2) = sp_explained S (nI K) (nI w) ∧ PM V (c + 1) h2 S2 ∧ m2 = m ∧ ∀ k, (k < 56 ∨ 88 < k) → h2 k = h k) 121 [some (.ref 56), some (.int (nI K)), some (.int (nI w)), some (.int (nI (num (N_n (S_N S)) (N_t (S_N S))))), some (.int (nI (DD (N_n (S_N S)) K (N_t (S_N S))))), some (.int (nI (num (N_n (S_N S)) (ed s z)))), some (.int (nI s)), some (.int (nI (k))), some (.int (nI (num (N_n (S_N S)) z))), some (.int (nI (s + 1))), v10, v11] [] m (HE (HL h (oM (N_n (S_N S)) (N_ns (S_N S)) (N_ra (S_N S)) (N_se (S_N S)) (N_me (S_N S)) (N_mi (S_N S)) (nI (TT (N_n (S_N S)))) (nI ve) la (S_tl S) at_ wr (N_fe (S_N S)) (S_K S).isSome) g1 g2 g3) g7 gf gr) (0, 0) := by
                      intro g7 s v10 v11 es
                      refine aw_drop 10 (aw_drop 11 ?_)
                      have his : isl (N_n (S_N S)) K s = true := by rw [es]; exact f2
                      have hzs := hz.ed hn6 his
                      have hs108 : s < 108 := by rw [es]; exact f1
                      refine aw_iload d_M_explained_121 rfl ?_
                      refine aw_bipush (v := nI 108) d_M_explained_123 (by decide) ?_
                      refine aw_icmp_ge (tgt := 272) d_M_explained_125 (by decide) (fun c125 => ?_) (fun c125 => ?_)
                      · refine aw_iinc (v := nI ((k) + 1)) (L' := [some (.ref 56), some (.int (nI K)), some (.int (nI w)), some (.int (nI (num (N_n (S_N S)) (N_t (S_N S))))), some (.int (nI (DD (N_n (S_N S)) K (N_t (S_N S))))), some (.int (nI (num (N_n (S_N S)) (ed s z)))), some (.int (nI s)), some (.int (nI ((k) + 1))), some (.int (nI (num (N_n (S_N S)) z))), some (.int (nI (s + 1))), none, none]) d_M_explained_272 rfl (nI_1 _) ⟨by decide, rfl⟩ rfl ?_
                        refine aw_goto (tgt := 104) d_M_explained_275 (by decide) ?_
                        exact aw_drop 8 (aw_drop 9 (ihk (k + 1) g7 (ed s z) (nI s) (by omega) hzs (by
                          rw [lft_s, ← es, ← hl]
                          funext v
                          by_cases q : v < 6
                          · show iv (ed s z) (N_t (S_N S) v) = tgs s (iv z (N_t (S_N S) v))
                            exact iv_ed hn6 his hz _ (hTb.1.1 v q)
                          · show iv (ed s z) (N_t (S_N S) v) = tgs s (iv z (N_t (S_N S) v))
                            rw [hTb.2 v (by omega), iv_out hzs.1 (by omega), iv_out hz.1 (by omega), (isl_t hn6 his).2.2.1 v (by omega)]) (fun _ => by rw [show k + 1 - 1 = k by omega, ← es])))
                      · refine aw_iload d_M_explained_128 rfl ?_
                        refine aw_if_ge (tgt := 272) d_M_explained_130 (by decide) (fun c130 => ?_) (fun c130 => ?_)
                        · refine aw_iinc (v := nI ((k) + 1)) (L' := [some (.ref 56), some (.int (nI K)), some (.int (nI w)), some (.int (nI (num (N_n (S_N S)) (N_t (S_N S))))), some (.int (nI (DD (N_n (S_N S)) K (N_t (S_N S))))), some (.int (nI (num (N_n (S_N S)) (ed s z)))), some (.int (nI s)), some (.int (nI ((k) + 1))), some (.int (nI (num (N_n (S_N S)) z))), some (.int (nI (s + 1))), none, none]) d_M_explained_272 rfl (nI_1 _) ⟨by decide, rfl⟩ rfl ?_
                          refine aw_goto (tgt := 104) d_M_explained_275 (by decide) ?_
                          exact aw_drop 8 (aw_drop 9 (ihk (k + 1) g7 (ed s z) (nI s) (by omega) hzs (by
                            rw [lft_s, ← es, ← hl]
                            funext v
                            by_cases q : v < 6
                            · show iv (ed s z) (N_t (S_N S) v) = tgs s (iv z (N_t (S_N S) v))
                              exact iv_ed hn6 his hz _ (hTb.1.1 v q)
                            · show iv (ed s z) (N_t (S_N S) v) = tgs s (iv z (N_t (S_N S) v))
                              rw [hTb.2 v (by omega), iv_out hzs.1 (by omega), iv_out hz.1 (by omega), (isl_t hn6 his).2.2.1 v (by omega)]) (fun _ => by rw [show k + 1 - 1 = k by omega, ← es])))
                        · exact absurd (nI_pos' (by omega)) c130
                    have loops : ∀ ks s (g7 : Nat → Int32), s + ks = 108 → s ≤ (ftw (N_n (S_N S)) K (lft (N_n (S_N S)) K k (N_t (S_N S)))) → ab_W Y_M_explained none l (fun r m2 h2 => ∃ (v : Int32) (S2 : SS), r = some (.int v) ∧ (v, S2) = sp_explained S (nI K) (nI w) ∧ PM V (c + 1) h2 S2 ∧ m2 = m ∧ ∀ k, (k < 56 ∨ 88 < k) → h2 k = h k) 121 [some (.ref 56), some (.int (nI K)), some (.int (nI w)), some (.int (nI (num (N_n (S_N S)) (N_t (S_N S))))), some (.int (nI (DD (N_n (S_N S)) K (N_t (S_N S))))), some (.int (nI (num (N_n (S_N S)) z))), some (.int (-4)), some (.int (nI (k))), some (.int (nI (num (N_n (S_N S)) z))), some (.int (nI (s))), none, none] [] m (HE (HL h (oM (N_n (S_N S)) (N_ns (S_N S)) (N_ra (S_N S)) (N_se (S_N S)) (N_me (S_N S)) (N_mi (S_N S)) (nI (TT (N_n (S_N S)))) (nI ve) la (S_tl S) at_ wr (N_fe (S_N S)) (S_K S).isSome) g1 g2 g3) g7 gf gr) (0, 0) := by
                      intro ks
                      induction ks with
                      | zero =>
                        intro s g7 hs hsf
                        have hsn : 108 = s := by omega
                        subst hsn
                        exact absurd hsf (by omega)
                      | succ ks ihs =>
                        intro s g7 hs hsf
                        refine aw_iload d_M_explained_121 rfl ?_
                        refine aw_bipush (v := nI 108) d_M_explained_123 (by decide) ?_
                        refine aw_icmp_ge (tgt := 272) d_M_explained_125 (by decide) (fun c125 => ?_) (fun c125 => ?_)
                        · exact absurd c125 (nI_ge (by omega) (by omega))
                        · refine aw_iload d_M_explained_128 rfl ?_
                          refine aw_if_ge (tgt := 272) d_M_explained_130 (by decide) (fun c130 => ?_) (fun c130 => ?_)
                          · first | exact absurd c130 (by decide) | exact absurd (by decide) c130
                          · refine aw_iload_n d_M_explained_133 rfl ?_
                            refine aw_iload d_M_explained_134 rfl ?_
                            refine aw_bipush (v := nI 36) d_M_explained_136 (by decide) ?_
                            refine aw_idiv d_M_explained_138 (by decide) ?_
                            rw [dv (by omega) (by decide) (by decide)]
                            refine aw_ishr d_M_explained_139 ?_
                            refine aw_iconst (v := nI 1) d_M_explained_140 (by decide) ?_
                            refine aw_iand d_M_explained_141 ?_
                            refine aw_iconst (v := nI 1) d_M_explained_142 (by decide) ?_
                            rw [b_at (by omega) (by omega)]
                            refine aw_icmp_ne (tgt := 266) d_M_explained_143 (by decide) (fun c143 => ?_) (fun c143 => ?_)
                            · refine aw_iinc (v := nI ((s) + 1)) (L' := [some (.ref 56), some (.int (nI K)), some (.int (nI w)), some (.int (nI (num (N_n (S_N S)) (N_t (S_N S))))), some (.int (nI (DD (N_n (S_N S)) K (N_t (S_N S))))), some (.int (nI (num (N_n (S_N S)) z))), some (.int (-4)), some (.int (nI (k))), some (.int (nI (num (N_n (S_N S)) z))), some (.int (nI ((s) + 1))), none, none]) d_M_explained_266 rfl (nI_1 _) ⟨by decide, rfl⟩ rfl ?_
                              refine aw_goto (tgt := 121) d_M_explained_269 (by decide) ?_
                              first
                                | (have hisn : isl (N_n (S_N S)) K s = false := Bool.eq_false_iff.mpr (fun y => by
                                     have y := (isl_c (show s < 108 by omega)).mp y
                                     first
                                       | exact c143 (b_1.mpr y.1)
                                       | exact of_decide_eq_false (ab_bl_0.mp c168) y.2)
                                   exact ihs (s + 1) g7 (by omega) (by
                                     have ne : ¬ s = (ftw (N_n (S_N S)) K (lft (N_n (S_N S)) K k (N_t (S_N S)))) := fun y => by rw [y, f2] at hisn; cases hisn
                                     omega))
                                | (refine aw_drop 10 (aw_drop 11 (ihs (s + 1) g7 (by omega) ?_))
                                   have ne : ¬ s = (ftw (N_n (S_N S)) K (lft (N_n (S_N S)) K k (N_t (S_N S)))) := fun y => by
                                     rw [← y] at f3
                                     exact c228 (by rw [show DD (N_n (S_N S)) K (ren s (lft (N_n (S_N S)) K k (N_t (S_N S)))) = DD (N_n (S_N S)) K (N_t (S_N S)) - 1 - k by omega])
                                   omega)
                                | (have es : s = (ftw (N_n (S_N S)) K (lft (N_n (S_N S)) K k (N_t (S_N S)))) := by
                                     have c228 := (nI_eq (by have := (DD_t hn6 h0 hK hren).1; omega) (by omega)).mp c228
                                     apply Nat.le_antisymm hsf
                                     apply Nat.not_lt.mp
                                     intro y
                                     exact f4 s y his (by omega)
                                   exact found g7 s _ _ es)
                            · refine aw_aload_n d_M_explained_146 rfl ?_
                              refine aw_iload d_M_explained_147 rfl ?_
                              refine aw_bipush (v := nI 36) d_M_explained_149 (by decide) ?_
                              refine aw_idiv d_M_explained_151 (by decide) ?_
                              rw [dv (by omega) (by decide) (by decide)]
                              refine aw_iload d_M_explained_152 rfl ?_
                              refine aw_bipush (v := nI 6) d_M_explained_154 (by decide) ?_
                              refine aw_idiv d_M_explained_156 (by decide) ?_
                              rw [dv (by omega) (by decide) (by decide)]
                              refine aw_bipush (v := nI 6) d_M_explained_157 (by decide) ?_
                              refine aw_irem d_M_explained_159 (by decide) ?_
                              rw [rm (by omega) (by decide) (by decide)]
                              refine aw_iload d_M_explained_160 rfl ?_
                              refine aw_bipush (v := nI 6) d_M_explained_162 (by decide) ?_
                              refine aw_irem d_M_explained_164 (by decide) ?_
                              rw [rm (by omega) (by decide) (by decide)]
                              refine aw_v0i (a := 56) d_M_explained_165 k_M_299 ok_M_isSlip rfl ⟨rfl, rfl⟩ cl_Model rfl (c_M_isSlip (h := HE (HL h (oM (N_n (S_N S)) (N_ns (S_N S)) (N_ra (S_N S)) (N_se (S_N S)) (N_me (S_N S)) (N_mi (S_N S)) (nI (TT (N_n (S_N S)))) (nI ve) la (S_tl S) at_ wr (N_fe (S_N S)) (S_K S).isSome) g1 g2 g3) g7 gf gr) (n := N_n (S_N S)) rfl hn6 (nI (s / 36)) (nI (s / 6 % 6)) (nI (s % 6))) rfl rfl (Nat.le_of_ble_eq_true rfl) ?_
                              refine aw_if_eq (tgt := 266) d_M_explained_168 (by decide) (fun c168 => ?_) (fun c168 => ?_)
                              · refine aw_iinc (v := nI ((s) + 1)) (L' := [some (.ref 56), some (.int (nI K)), some (.int (nI w)), some (.int (nI (num (N_n (S_N S)) (N_t (S_N S))))), some (.int (nI (DD (N_n (S_N S)) K (N_t (S_N S))))), some (.int (nI (num (N_n (S_N S)) z))), some (.int (-4)), some (.int (nI (k))), some (.int (nI (num (N_n (S_N S)) z))), some (.int (nI ((s) + 1))), none, none]) d_M_explained_266 rfl (nI_1 _) ⟨by decide, rfl⟩ rfl ?_
                                refine aw_goto (tgt := 121) d_M_explained_269 (by decide) ?_
                                first
                                  | (have hisn : isl (N_n (S_N S)) K s = false := Bool.eq_false_iff.mpr (fun y => by
                                       have y := (isl_c (show s < 108 by omega)).mp y
                                       first
                                         | exact c143 (b_1.mpr y.1)
                                         | exact of_decide_eq_false (ab_bl_0.mp c168) y.2)
                                     exact ihs (s + 1) g7 (by omega) (by
                                       have ne : ¬ s = (ftw (N_n (S_N S)) K (lft (N_n (S_N S)) K k (N_t (S_N S)))) := fun y => by rw [y, f2] at hisn; cases hisn
                                       omega))
                                  | (refine aw_drop 10 (aw_drop 11 (ihs (s + 1) g7 (by omega) ?_))
                                     have ne : ¬ s = (ftw (N_n (S_N S)) K (lft (N_n (S_N S)) K k (N_t (S_N S)))) := fun y => by
                                       rw [← y] at f3
                                       exact c228 (by rw [show DD (N_n (S_N S)) K (ren s (lft (N_n (S_N S)) K k (N_t (S_N S)))) = DD (N_n (S_N S)) K (N_t (S_N S)) - 1 - k by omega])
                                     omega)
                                  | (have es : s = (ftw (N_n (S_N S)) K (lft (N_n (S_N S)) K k (N_t (S_N S)))) := by
                                       have c228 := (nI_eq (by have := (DD_t hn6 h0 hK hren).1; omega) (by omega)).mp c228
                                       apply Nat.le_antisymm hsf
                                       apply Nat.not_lt.mp
                                       intro y
                                       exact f4 s y his (by omega)
                                     exact found g7 s _ _ es)
                              · have his : isl (N_n (S_N S)) K s = true := (isl_c (show s < 108 by omega)).mpr ⟨b_1.mp c143, of_decide_eq_true (ab_bl_1.mp c168)⟩
                                have hy := hz.ed hn6 his
                                have hren := hlt.ren hn6 his
                                have eren : (fun v => iv (ed s z) (N_t (S_N S) v)) = ren s (lft (N_n (S_N S)) K k (N_t (S_N S))) := by
                                  rw [← hl]
                                  funext v
                                  by_cases q : v < 6
                                  · show iv (ed s z) (N_t (S_N S) v) = tgs s (iv z (N_t (S_N S) v))
                                    exact iv_ed hn6 his hz _ (hTb.1.1 v q)
                                  · show iv (ed s z) (N_t (S_N S) v) = tgs s (iv z (N_t (S_N S) v))
                                    rw [hTb.2 v (by omega), iv_out hy.1 (by omega), iv_out hz.1 (by omega), (isl_t hn6 his).2.2.1 v (by omega)]
                                refine aw_aload_n d_M_explained_171 rfl ?_
                                refine aw_iload d_M_explained_172 rfl ?_
                                refine aw_aload_n d_M_explained_174 rfl ?_
                                refine aw_get (k := 18) d_M_explained_175 cl_Model k_M_50 (by decide) rfl rfl ?_
                                refine aw_bipush (v := nI 6) d_M_explained_178 (by decide) ?_
                                refine aw_iload d_M_explained_180 rfl ?_
                                refine aw_imul d_M_explained_182 ?_
                                rw [pk_mul]
                                refine aw_aload_n d_M_explained_183 rfl ?_
                                refine aw_get (k := 22) d_M_explained_184 cl_Model k_M_63 (by decide) rfl rfl ?_
                                refine aw_v0 (a := 56) d_M_explained_187 k_M_303 ok_M_slips rfl ⟨rfl, rfl⟩ cl_Model rfl (c_slips (h := HE (HL h (oM (N_n (S_N S)) (N_ns (S_N S)) (N_ra (S_N S)) (N_se (S_N S)) (N_me (S_N S)) (N_mi (S_N S)) (nI (TT (N_n (S_N S)))) (nI ve) la (S_tl S) at_ wr (N_fe (S_N S)) (S_K S).isSome) g1 g2 g3) g7 gf gr) (N := S_N S) rfl ok.1 (isl_s his).2 (A := 68) (NN := 4320) (g := g2) (fo := 6 * num (N_n (S_N S)) z) rfl (by decide) (by omega) (x := z) (fun k hk => by rw [hly.row nz hk, (hz.nu hn6).2]) (by decide) (gt := g7) rfl) rfl rfl (Nat.le_of_ble_eq_true rfl) (fun r m2 h2 y => ?_)
                                obtain ⟨rfl, em, g7, rfl, eg7⟩ := y
                                rw [em, he_72]
                                show ab_W _ _ _ _ 190 _ [] _ _ _
                                refine aw_aload_n d_M_explained_190 rfl ?_
                                refine aw_get (k := 19) d_M_explained_191 cl_Model k_M_54 (by decide) rfl rfl ?_
                                refine aw_aload_n d_M_explained_194 rfl ?_
                                refine aw_get (k := 22) d_M_explained_195 cl_Model k_M_63 (by decide) rfl rfl ?_
                                refine aw_iconst (v := nI 0) d_M_explained_198 (by decide) ?_
                                refine aw_aload_n d_M_explained_199 rfl ?_
                                refine aw_get (k := 0) d_M_explained_200 cl_Model k_M_118 (by decide) rfl rfl ?_
                                refine aw_s0i d_M_explained_203 k_M_223 ok_M_codeOf rfl ⟨rfl, rfl⟩ (c_codeOf (h := HE (HL h (oM (N_n (S_N S)) (N_ns (S_N S)) (N_ra (S_N S)) (N_se (S_N S)) (N_me (S_N S)) (N_mi (S_N S)) (nI (TT (N_n (S_N S)))) (nI ve) la (S_tl S) at_ wr (N_fe (S_N S)) (S_K S).isSome) g1 g2 g3) g7 gf gr) (A := 72) (NN := 6) (fo := 0) (n := N_n (S_N S)) rfl (by decide) (by omega) (x := (ed s z)) (fun k hk => by rw [Nat.zero_add]; exact eg7 k hk)) rfl rfl (Nat.le_of_ble_eq_true rfl) ?_
                                refine aw_ialoadN d_M_explained_206 rfl (cd_46 hn6 hy) (by decide) ?_
                                rw [hly.num hn6 hy.1 hy.2]
                                refine aw_istore (L' := [some (.ref 56), some (.int (nI K)), some (.int (nI w)), some (.int (nI (num (N_n (S_N S)) (N_t (S_N S))))), some (.int (nI (DD (N_n (S_N S)) K (N_t (S_N S))))), some (.int (nI (num (N_n (S_N S)) z))), some (.int (-4)), some (.int (nI (k))), some (.int (nI (num (N_n (S_N S)) z))), some (.int (nI (s))), some (.int (nI (num (N_n (S_N S)) (ed s z)))), none]) d_M_explained_207 ⟨by decide, rfl⟩ rfl ?_
                                refine aw_aload_n d_M_explained_209 rfl ?_
                                refine aw_get (k := 36) d_M_explained_210 cl_Model k_M_91 (by decide) rfl rfl ?_
                                refine aw_aload_n d_M_explained_213 rfl ?_
                                refine aw_iload d_M_explained_214 rfl ?_
                                refine aw_iload_n d_M_explained_216 rfl ?_
                                refine aw_v0 (a := 56) d_M_explained_217 k_M_311 ok_M_between rfl ⟨rfl, rfl⟩ cl_Model rfl (c_between (h := HE (HL h (oM (N_n (S_N S)) (N_ns (S_N S)) (N_ra (S_N S)) (N_se (S_N S)) (N_me (S_N S)) (N_mi (S_N S)) (nI (TT (N_n (S_N S)))) (nI ve) la (S_tl S) at_ wr (N_fe (S_N S)) (S_K S).isSome) g1 g2 g3) g7 gf gr) (N := S_N S) rfl ok.1 (g2 := g2) (g3 := g3) rfl rfl hly (g7 := g7) rfl hy hTb) rfl rfl (Nat.le_of_ble_eq_true rfl) (fun r m2 h2 y => ?_)
                                obtain ⟨rfl, em, g7, rfl⟩ := y
                                rw [em, he_72]
                                show ab_W _ _ _ _ 220 _ (.int (nI (num (N_n (S_N S)) (fun k => iv (ed s z) (N_t (S_N S) k)))) :: _) _ _ _
                                refine aw_ialoadN d_M_explained_220 rfl (Nat.lt_of_lt_of_le ((hy.iv_ hn6 hTb).nu hn6).1 hTT) (by decide) ?_
                                rw [eren, (hall _ hren).1]
                                refine aw_iload d_M_explained_221 rfl ?_
                                refine aw_iconst (v := nI 1) d_M_explained_223 (by decide) ?_
                                refine aw_isub d_M_explained_224 ?_
                                refine aw_iload d_M_explained_225 rfl ?_
                                refine aw_isub d_M_explained_227 ?_
                                rw [pk_sub (by omega), pk_sub (by omega)]
                                refine aw_icmp_ne (tgt := 235) d_M_explained_228 (by decide) (fun c228 => ?_) (fun c228 => ?_)
                                · refine aw_iconst (v := nI 0) d_M_explained_235 (by decide) ?_
                                  refine aw_istore (L' := [some (.ref 56), some (.int (nI K)), some (.int (nI w)), some (.int (nI (num (N_n (S_N S)) (N_t (S_N S))))), some (.int (nI (DD (N_n (S_N S)) K (N_t (S_N S))))), some (.int (nI (num (N_n (S_N S)) z))), some (.int (-4)), some (.int (nI (k))), some (.int (nI (num (N_n (S_N S)) z))), some (.int (nI (s))), some (.int (nI (num (N_n (S_N S)) (ed s z)))), some (.int (nI 0))]) d_M_explained_236 ⟨by decide, rfl⟩ rfl ?_
                                  refine aw_iload d_M_explained_238 rfl ?_
                                  refine aw_if_eq (tgt := 248) d_M_explained_240 (by decide) (fun c240 => ?_) (fun c240 => ?_)
                                  · refine aw_iload d_M_explained_248 rfl ?_
                                    refine aw_istore (L' := [some (.ref 56), some (.int (nI K)), some (.int (nI w)), some (.int (nI (num (N_n (S_N S)) (N_t (S_N S))))), some (.int (nI (DD (N_n (S_N S)) K (N_t (S_N S))))), some (.int (nI (num (N_n (S_N S)) z))), some (.int (-4)), some (.int (nI (k))), some (.int (nI (num (N_n (S_N S)) z))), some (.int (nI (s))), some (.int (nI (num (N_n (S_N S)) (ed s z)))), some (.int (nI 0))]) d_M_explained_250 ⟨by decide, rfl⟩ rfl ?_
                                    refine aw_iload d_M_explained_252 rfl ?_
                                    refine aw_if_eq (tgt := 262) d_M_explained_254 (by decide) (fun c254 => ?_) (fun c254 => ?_)
                                    · refine aw_iload d_M_explained_262 rfl ?_
                                      refine aw_istore (L' := [some (.ref 56), some (.int (nI K)), some (.int (nI w)), some (.int (nI (num (N_n (S_N S)) (N_t (S_N S))))), some (.int (nI (DD (N_n (S_N S)) K (N_t (S_N S))))), some (.int (nI (num (N_n (S_N S)) z))), some (.int (-4)), some (.int (nI (k))), some (.int (nI (num (N_n (S_N S)) z))), some (.int (nI (s))), some (.int (nI (num (N_n (S_N S)) (ed s z)))), some (.int (nI 0))]) d_M_explained_264 ⟨by decide, rfl⟩ rfl ?_
                                      refine aw_iinc (v := nI ((s) + 1)) (L' := [some (.ref 56), some (.int (nI K)), some (.int (nI w)), some (.int (nI (num (N_n (S_N S)) (N_t (S_N S))))), some (.int (nI (DD (N_n (S_N S)) K (N_t (S_N S))))), some (.int (nI (num (N_n (S_N S)) z))), some (.int (-4)), some (.int (nI (k))), some (.int (nI (num (N_n (S_N S)) z))), some (.int (nI ((s) + 1))), some (.int (nI (num (N_n (S_N S)) (ed s z)))), some (.int (nI 0))]) d_M_explained_266 rfl (nI_1 _) ⟨by decide, rfl⟩ rfl ?_
                                      refine aw_goto (tgt := 121) d_M_explained_269 (by decide) ?_
                                      first
                                        | (have hisn : isl (N_n (S_N S)) K s = false := Bool.eq_false_iff.mpr (fun y => by
                                             have y := (isl_c (show s < 108 by omega)).mp y
                                             first
                                               | exact c143 (b_1.mpr y.1)
                                               | exact of_decide_eq_false (ab_bl_0.mp c168) y.2)
                                           exact ihs (s + 1) g7 (by omega) (by
                                             have ne : ¬ s = (ftw (N_n (S_N S)) K (lft (N_n (S_N S)) K k (N_t (S_N S)))) := fun y => by rw [y, f2] at hisn; cases hisn
                                             omega))
                                        | (refine aw_drop 10 (aw_drop 11 (ihs (s + 1) g7 (by omega) ?_))
                                           have ne : ¬ s = (ftw (N_n (S_N S)) K (lft (N_n (S_N S)) K k (N_t (S_N S)))) := fun y => by
                                             rw [← y] at f3
                                             exact c228 (by rw [show DD (N_n (S_N S)) K (ren s (lft (N_n (S_N S)) K k (N_t (S_N S)))) = DD (N_n (S_N S)) K (N_t (S_N S)) - 1 - k by omega])
                                           omega)
                                        | (have es : s = (ftw (N_n (S_N S)) K (lft (N_n (S_N S)) K k (N_t (S_N S)))) := by
                                             have c228 := (nI_eq (by have := (DD_t hn6 h0 hK hren).1; omega) (by omega)).mp c228
                                             apply Nat.le_antisymm hsf
                                             apply Nat.not_lt.mp
                                             intro y
                                             exact f4 s y his (by omega)
                                           exact found g7 s _ _ es)
                                    · first | exact absurd c254 (by decide) | exact absurd (by decide) c254
                                  · first | exact absurd c240 (by decide) | exact absurd (by decide) c240
                                · refine aw_iconst (v := nI 1) d_M_explained_231 (by decide) ?_
                                  refine aw_goto (tgt := 236) d_M_explained_232 (by decide) ?_
                                  refine aw_istore (L' := [some (.ref 56), some (.int (nI K)), some (.int (nI w)), some (.int (nI (num (N_n (S_N S)) (N_t (S_N S))))), some (.int (nI (DD (N_n (S_N S)) K (N_t (S_N S))))), some (.int (nI (num (N_n (S_N S)) z))), some (.int (-4)), some (.int (nI (k))), some (.int (nI (num (N_n (S_N S)) z))), some (.int (nI (s))), some (.int (nI (num (N_n (S_N S)) (ed s z)))), some (.int (nI 1))]) d_M_explained_236 ⟨by decide, rfl⟩ rfl ?_
                                  refine aw_iload d_M_explained_238 rfl ?_
                                  refine aw_if_eq (tgt := 248) d_M_explained_240 (by decide) (fun c240 => ?_) (fun c240 => ?_)
                                  · first | exact absurd c240 (by decide) | exact absurd (by decide) c240
                                  · refine aw_iload d_M_explained_243 rfl ?_
                                    refine aw_goto (tgt := 250) d_M_explained_245 (by decide) ?_
                                    refine aw_istore (L' := [some (.ref 56), some (.int (nI K)), some (.int (nI w)), some (.int (nI (num (N_n (S_N S)) (N_t (S_N S))))), some (.int (nI (DD (N_n (S_N S)) K (N_t (S_N S))))), some (.int (nI (num (N_n (S_N S)) z))), some (.int (nI (s))), some (.int (nI (k))), some (.int (nI (num (N_n (S_N S)) z))), some (.int (nI (s))), some (.int (nI (num (N_n (S_N S)) (ed s z)))), some (.int (nI 1))]) d_M_explained_250 ⟨by decide, rfl⟩ rfl ?_
                                    refine aw_iload d_M_explained_252 rfl ?_
                                    refine aw_if_eq (tgt := 262) d_M_explained_254 (by decide) (fun c254 => ?_) (fun c254 => ?_)
                                    · first | exact absurd c254 (by decide) | exact absurd (by decide) c254
                                    · refine aw_iload d_M_explained_257 rfl ?_
                                      refine aw_goto (tgt := 264) d_M_explained_259 (by decide) ?_
                                      refine aw_istore (L' := [some (.ref 56), some (.int (nI K)), some (.int (nI w)), some (.int (nI (num (N_n (S_N S)) (N_t (S_N S))))), some (.int (nI (DD (N_n (S_N S)) K (N_t (S_N S))))), some (.int (nI (num (N_n (S_N S)) (ed s z)))), some (.int (nI (s))), some (.int (nI (k))), some (.int (nI (num (N_n (S_N S)) z))), some (.int (nI (s))), some (.int (nI (num (N_n (S_N S)) (ed s z)))), some (.int (nI 1))]) d_M_explained_264 ⟨by decide, rfl⟩ rfl ?_
                                      refine aw_iinc (v := nI ((s) + 1)) (L' := [some (.ref 56), some (.int (nI K)), some (.int (nI w)), some (.int (nI (num (N_n (S_N S)) (N_t (S_N S))))), some (.int (nI (DD (N_n (S_N S)) K (N_t (S_N S))))), some (.int (nI (num (N_n (S_N S)) (ed s z)))), some (.int (nI (s))), some (.int (nI (k))), some (.int (nI (num (N_n (S_N S)) z))), some (.int (nI ((s) + 1))), some (.int (nI (num (N_n (S_N S)) (ed s z)))), some (.int (nI 1))]) d_M_explained_266 rfl (nI_1 _) ⟨by decide, rfl⟩ rfl ?_
                                      refine aw_goto (tgt := 121) d_M_explained_269 (by decide) ?_
                                      first
                                        | (have hisn : isl (N_n (S_N S)) K s = false := Bool.eq_false_iff.mpr (fun y => by
                                             have y := (isl_c (show s < 108 by omega)).mp y
                                             first
                                               | exact c143 (b_1.mpr y.1)
                                               | exact of_decide_eq_false (ab_bl_0.mp c168) y.2)
                                           exact ihs (s + 1) g7 (by omega) (by
                                             have ne : ¬ s = (ftw (N_n (S_N S)) K (lft (N_n (S_N S)) K k (N_t (S_N S)))) := fun y => by rw [y, f2] at hisn; cases hisn
                                             omega))
                                        | (refine aw_drop 10 (aw_drop 11 (ihs (s + 1) g7 (by omega) ?_))
                                           have ne : ¬ s = (ftw (N_n (S_N S)) K (lft (N_n (S_N S)) K k (N_t (S_N S)))) := fun y => by
                                             rw [← y] at f3
                                             exact c228 (by rw [show DD (N_n (S_N S)) K (ren s (lft (N_n (S_N S)) K k (N_t (S_N S)))) = DD (N_n (S_N S)) K (N_t (S_N S)) - 1 - k by omega])
                                           omega)
                                        | (have es : s = (ftw (N_n (S_N S)) K (lft (N_n (S_N S)) K k (N_t (S_N S)))) := by
                                             have c228 := (nI_eq (by have := (DD_t hn6 h0 hK hren).1; omega) (by omega)).mp c228
                                             apply Nat.le_antisymm hsf
                                             apply Nat.not_lt.mp
                                             intro y
                                             exact f4 s y his (by omega)
                                           exact found g7 s _ _ es)
                    exact loops 108 0 g7 (by omega) (Nat.zero_le _)
              have z := loopk (w + 1) 0 g7 (fun k => k) (-4) (by omega) (Tb.id _) (by
                funext v
                show iv (fun k => k) (N_t (S_N S) v) = N_t (S_N S) v
                by_cases q : N_t (S_N S) v < 6
                · exact (iv_t id_pm q).2.2
                · exact iv_out id_pm (by omega)) (fun z => absurd z (Nat.lt_irrefl _))
              rw [num_id hn6] at z
              exact z
            · refine aw_iload_n d_M_explained_77 rfl ?_
              refine aw_iconst (v := (-1)) d_M_explained_78 (by decide) ?_
              refine aw_icmp_ne (tgt := 87) d_M_explained_79 (by decide) (fun c79 => ?_) (fun c79 => ?_)
              · refine aw_aload_n d_M_explained_87 rfl ?_
                refine aw_get (k := 37) d_M_explained_88 cl_Model k_M_94 (by decide) rfl rfl ?_
                refine aw_iload_n d_M_explained_91 rfl ?_
                refine aw_ialoadN d_M_explained_92 rfl (Nat.lt_of_lt_of_le (hTb.nu hn6).1 hTT) (by decide) ?_
                refine aw_ireturn d_M_explained_93 rfl rfl ?_
                refine ⟨_, S, rfl, ?_, PM.mk2 hc (tab2 := nI (TT (N_n (S_N S)))) (la := la) (at_ := at_) (wr := wr) (ve := ve) (fs := fs) (ft := ft) rfl m1 m3 m4 m5 m6 ⟨n0, n1, n2, n3, n4, n5, n6, n7, n8, n9⟩ q1 q2 q4 (fun k h1 h2 h3 h4 => ?_) ⟨q3.1, ⟨g1, rfl⟩, ⟨g2, rfl⟩, ⟨g3, rfl⟩, q3.2.2.2.2.1, q3.2.2.2.2.2.1, ⟨g7, rfl⟩, q3.2.2.2.2.2.2.2.1, q3.2.2.2.2.2.2.2.2.1, q3.2.2.2.2.2.2.2.2.2.1, ⟨gf, rfl⟩, ⟨gr, rfl⟩, q3.2.2.2.2.2.2.2.2.2.2.2.2⟩, rfl, fun k hk => ?_⟩
                rotate_left
                · unfold scr at h3
                  rw [HE_ne (by omega) (by omega) (by omega), HL_ne (by omega) (by omega)]
                · rw [HE_ne (by omega) (by omega) (by omega), HL_ne (by omega) (by omega)]
                unfold sp_explained
                rw [if_pos ⟨irk, irw⟩, if_neg (by omega), cl_nI (by omega)]
                first
                  | (rw [if_pos c79]; done)
                  | (rw [if_neg c79, if_pos (by
                       rw [fa_le, Int32.toInt_zero] at c74
                       rw [fa_eq, w1] at c79
                       rw [fa_eq, w2]
                       omega), (hall _ hTb).2]; done)
              · refine aw_iload d_M_explained_82 rfl ?_
                refine aw_goto (tgt := 93) d_M_explained_84 (by decide) ?_
                refine aw_ireturn d_M_explained_93 rfl rfl ?_
                refine ⟨_, S, rfl, ?_, PM.mk2 hc (tab2 := nI (TT (N_n (S_N S)))) (la := la) (at_ := at_) (wr := wr) (ve := ve) (fs := fs) (ft := ft) rfl m1 m3 m4 m5 m6 ⟨n0, n1, n2, n3, n4, n5, n6, n7, n8, n9⟩ q1 q2 q4 (fun k h1 h2 h3 h4 => ?_) ⟨q3.1, ⟨g1, rfl⟩, ⟨g2, rfl⟩, ⟨g3, rfl⟩, q3.2.2.2.2.1, q3.2.2.2.2.2.1, ⟨g7, rfl⟩, q3.2.2.2.2.2.2.2.1, q3.2.2.2.2.2.2.2.2.1, q3.2.2.2.2.2.2.2.2.2.1, ⟨gf, rfl⟩, ⟨gr, rfl⟩, q3.2.2.2.2.2.2.2.2.2.2.2.2⟩, rfl, fun k hk => ?_⟩
                rotate_left
                · unfold scr at h3
                  rw [HE_ne (by omega) (by omega) (by omega), HL_ne (by omega) (by omega)]
                · rw [HE_ne (by omega) (by omega) (by omega), HL_ne (by omega) (by omega)]
                unfold sp_explained
                rw [if_pos ⟨irk, irw⟩, if_neg (by omega), cl_nI (by omega)]
                first
                  | (rw [if_pos c79]; done)
                  | (rw [if_neg c79, if_pos (by
                       rw [fa_le, Int32.toInt_zero] at c74
                       rw [fa_eq, w1] at c79
                       rw [fa_eq, w2]
                       omega), (hall _ hTb).2]; done)
          · refine aw_bipush (v := (-4)) d_M_explained_70 (by decide) ?_
            refine aw_ireturn d_M_explained_72 rfl rfl ?_
            refine ⟨_, S, rfl, ?_, PM.mk2 hc (tab2 := nI (TT (N_n (S_N S)))) (la := la) (at_ := at_) (wr := wr) (ve := ve) (fs := fs) (ft := ft) rfl m1 m3 m4 m5 m6 ⟨n0, n1, n2, n3, n4, n5, n6, n7, n8, n9⟩ q1 q2 q4 (fun k h1 h2 h3 h4 => ?_) ⟨q3.1, ⟨g1, rfl⟩, ⟨g2, rfl⟩, ⟨g3, rfl⟩, q3.2.2.2.2.1, q3.2.2.2.2.2.1, ⟨g7, rfl⟩, q3.2.2.2.2.2.2.2.1, q3.2.2.2.2.2.2.2.2.1, q3.2.2.2.2.2.2.2.2.2.1, ⟨gf, rfl⟩, ⟨gr, rfl⟩, q3.2.2.2.2.2.2.2.2.2.2.2.2⟩, rfl, fun k hk => ?_⟩
            rotate_left
            · unfold scr at h3
              rw [HE_ne (by omega) (by omega) (by omega), HL_ne (by omega) (by omega)]
            · rw [HE_ne (by omega) (by omega) (by omega), HL_ne (by omega) (by omega)]
            unfold sp_explained
            rw [if_pos ⟨irk, irw⟩, if_neg (by omega), cl_nI (by omega)]
            have c67' : (DD (N_n (S_N S)) K (N_t (S_N S)) : Int) ≤ w.toInt := by rw [fa_lt, nI_toInt (by omega)] at c67; omega
            rw [if_neg (fun z => by rw [z, w1] at c67'; omega), if_neg (fun z => by rw [z, w2] at c67'; omega), if_neg (by omega)]
      · refine aw_bipush (v := (-2)) d_M_explained_27 (by decide) ?_
        refine aw_ireturn d_M_explained_29 rfl rfl ?_
        refine ⟨_, S, rfl, ?_, ⟨⟨tab, la, at_, wr, ve, fs, ft, m0, by omega, by omega, m3, m4, m5, m6⟩, ⟨n0, n1, n2, n3, n4, n5, n6, n7, n8, n9⟩, q1, q2, q3, q4⟩, rfl, fun k _ => rfl⟩
        unfold sp_explained
        rw [if_pos ⟨irk, irw⟩, if_pos ((nI_eq (b := 0) (by omega) (by decide)).mp c24)]
    · refine aw_iconst (v := (-1)) d_M_explained_18 (by decide) ?_
      refine aw_ireturn d_M_explained_19 rfl rfl ?_
      refine ⟨_, S, rfl, ?_, ⟨⟨tab, la, at_, wr, ve, fs, ft, m0, by omega, by omega, m3, m4, m5, m6⟩, ⟨n0, n1, n2, n3, n4, n5, n6, n7, n8, n9⟩, q1, q2, q3, q4⟩, rfl, fun k _ => rfl⟩
      unfold sp_explained
      rw [if_neg]
      intro z
      first
        | (have y := of_decide_eq_false (ab_bl_0.mp c9)
           rw [i64_toInt, tl1, tl7] at y
           exact y z.1)
        | (rw [fa_le, w2] at c15; exact c15 z.2)
