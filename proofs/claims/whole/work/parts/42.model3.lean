def sp_finds (S : SS) (s : Nat) (lane i : Int32) (n : Int) : Int32 := if S_la S s = -1 then -11 else if ¬ S_la S s = lane then -12 else if i.toInt < 0 ∨ (S_sz S s).toInt < i.toInt + n then -13 else 0
theorem lg_le0 (x y : Int64) : lg_cmp x y ≤ 0 ↔ x.toInt ≤ y.toInt := by
  unfold lg_cmp
  by_cases a : y < x
  · rw [if_pos a]
    rw [fa_lt64] at a
    exact ⟨fun q => absurd q (by decide), fun q => by omega⟩
  · rw [if_neg a]
    rw [fa_lt64] at a
    by_cases b : x = y
    · rw [if_pos b]
      exact ⟨fun _ => by omega, fun _ => by decide⟩
    · rw [if_neg b]
      exact ⟨fun _ => by omega, fun _ => by decide⟩
theorem c_M_finds {m : Nat} {h : ab_H} {S : SS} (ok : S_ok S) {n ns ra se : Nat} {me mi tab ve la : Int32} {tl : Nat} {at_ wr : Int32} {fe : Nat} {kp : Bool} (hM : h 56 = oM n ns ra se me mi tab ve la tl at_ wr fe kp) {gl gz : Nat → Int32} (hl : h 85 = .inl (4, gl)) (al : ∀ k, k < 4 → gl k = S_la S k) (hz : h 86 = .inl (4, gz)) (az : ∀ k, k < 4 → gz k = S_sz S k) (s : Nat) (hs : s < 4) (lane i z : Int32) : ab_D Y_M_finds [.ref 56, .int (nI s), .int lane, .int i, .int z] m h (some (.int (sp_finds S s lane i z.toInt))) m (h) := by
  refine ab_C.of (L := [some (.ref 56), some (.int (nI s)), some (.int lane), some (.int i), some (.int z)]) rfl rfl (Nat.le_of_ble_eq_true rfl) (fun l => ?_)
  have l1 := la_neg ok hs
  have e0 := al s hs
  have e1 := az s hs
  have e2 : (i.toInt64 + z.toInt64).toInt = i.toInt + z.toInt := by
    have hr := fb_rng i
    have hr2 := fb_rng z
    rw [Int64.toInt_add, i64_toInt, i64_toInt]
    apply Int.bmod_eq_of_le <;> omega
  refine aw_aload_n d_M_finds_0 rfl ?_
  refine aw_get (k := 42) d_M_finds_1 cl_Model k_M_106 (by decide) hM rfl ?_
  refine aw_iload_n d_M_finds_4 rfl ?_
  refine aw_ialoadN d_M_finds_5 hl (by omega) (by decide) ?_
  refine aw_if_ge (tgt := 12) d_M_finds_6 (by decide) (fun c6 => ?_) (fun c6 => ?_)
  · refine aw_aload_n d_M_finds_12 rfl ?_
    refine aw_get (k := 42) d_M_finds_13 cl_Model k_M_106 (by decide) hM rfl ?_
    refine aw_iload_n d_M_finds_16 rfl ?_
    refine aw_ialoadN d_M_finds_17 hl (by omega) (by decide) ?_
    refine aw_iload_n d_M_finds_18 rfl ?_
    refine aw_icmp_eq (tgt := 25) d_M_finds_19 (by decide) (fun c19 => ?_) (fun c19 => ?_)
    · refine aw_iload_n d_M_finds_25 rfl ?_
      refine aw_if_lt (tgt := 46) d_M_finds_26 (by decide) (fun c26 => ?_) (fun c26 => ?_)
      · refine aw_bipush (v := (-13)) d_M_finds_46 (by decide) ?_
        refine aw_goto (tgt := 52) d_M_finds_48 (by decide) ?_
        refine aw_ireturn d_M_finds_52 rfl rfl ?_
        refine ⟨congrArg (fun z => some (Value.int z)) ?_, rfl, rfl⟩
        unfold sp_finds
        rw [e0] at c6 c19
        rw [if_neg (l1.2.mp c6), if_neg (fun q => q c19)]
        first
          | (rw [if_pos (Or.inl (by rw [fa_lt, Int32.toInt_zero] at c26; exact c26))])
          | (rw [lg_le0, e2, i64_toInt, e1] at c43
             first
               | (rw [if_pos (Or.inr (by omega))]; done)
               | (rw [if_neg (by rw [fa_lt, Int32.toInt_zero] at c26; omega)]; rfl))
      · refine aw_iload_n d_M_finds_29 rfl ?_
        refine aw_i2l d_M_finds_30 ?_
        refine aw_iload d_M_finds_31 rfl ?_
        refine aw_i2l d_M_finds_33 ?_
        refine aw_ladd d_M_finds_34 ?_
        refine aw_aload_n d_M_finds_35 rfl ?_
        refine aw_get (k := 43) d_M_finds_36 cl_Model k_M_109 (by decide) hM rfl ?_
        refine aw_iload_n d_M_finds_39 rfl ?_
        refine aw_ialoadN d_M_finds_40 hz (by omega) (by decide) ?_
        refine aw_i2l d_M_finds_41 ?_
        refine aw_lcmp d_M_finds_42 ?_
        refine aw_if_le (tgt := 51) d_M_finds_43 (by decide) (fun c43 => ?_) (fun c43 => ?_)
        · refine aw_iconst (v := nI 0) d_M_finds_51 (by decide) ?_
          refine aw_ireturn d_M_finds_52 rfl rfl ?_
          refine ⟨congrArg (fun z => some (Value.int z)) ?_, rfl, rfl⟩
          unfold sp_finds
          rw [e0] at c6 c19
          rw [if_neg (l1.2.mp c6), if_neg (fun q => q c19)]
          first
            | (rw [if_pos (Or.inl (by rw [fa_lt, Int32.toInt_zero] at c26; exact c26))])
            | (rw [lg_le0, e2, i64_toInt, e1] at c43
               first
                 | (rw [if_pos (Or.inr (by omega))]; done)
                 | (rw [if_neg (by rw [fa_lt, Int32.toInt_zero] at c26; omega)]; rfl))
        · refine aw_bipush (v := (-13)) d_M_finds_46 (by decide) ?_
          refine aw_goto (tgt := 52) d_M_finds_48 (by decide) ?_
          refine aw_ireturn d_M_finds_52 rfl rfl ?_
          refine ⟨congrArg (fun z => some (Value.int z)) ?_, rfl, rfl⟩
          unfold sp_finds
          rw [e0] at c6 c19
          rw [if_neg (l1.2.mp c6), if_neg (fun q => q c19)]
          first
            | (rw [if_pos (Or.inl (by rw [fa_lt, Int32.toInt_zero] at c26; exact c26))])
            | (rw [lg_le0, e2, i64_toInt, e1] at c43
               first
                 | (rw [if_pos (Or.inr (by omega))]; done)
                 | (rw [if_neg (by rw [fa_lt, Int32.toInt_zero] at c26; omega)]; rfl))
    · refine aw_bipush (v := (-12)) d_M_finds_22 (by decide) ?_
      refine aw_ireturn d_M_finds_24 rfl rfl ?_
      refine ⟨congrArg (fun z => some (Value.int z)) ?_, rfl, rfl⟩
      unfold sp_finds
      rw [e0] at c6 c19
      rw [if_neg (l1.2.mp c6), if_pos c19]
  · refine aw_bipush (v := (-11)) d_M_finds_9 (by decide) ?_
    refine aw_ireturn d_M_finds_11 rfl rfl ?_
    refine ⟨congrArg (fun z => some (Value.int z)) ?_, rfl, rfl⟩
    unfold sp_finds
    rw [e0] at c6
    rw [if_pos (Classical.not_not.mp (fun q => c6 (l1.2.mpr q)))]
theorem sp_ff {S : SS} {s : Nat} (hs : s < 4) {lane i : Int32} (hl : ir lane 0 2) (n : Nat) : sp_fault S (nI s) lane i n = sp_finds S s lane i n := by
  unfold sp_fault sp_finds
  have e := nI_toInt (show s < 2 ^ 31 by omega)
  rw [if_pos ⟨⟨by omega, by omega⟩, hl⟩, cl_nI (by omega)]
theorem y_item {V : VV} {m c : Nat} {h : ab_H} {S : SS} (hM : PM V c h S) (ok : S_ok S) (hc : c < 900)  (sh lane i v : Int32) : CM V Y_M_item [.int sh, .int lane, .int i, .int v] m c h (fun r S2 => (r, S2) = sp_item S sh lane i v) := by
  obtain ⟨⟨tab, la, at_, wr, ve, fs, ft, m0, m1, m2, m3, m4, m5, m6⟩, ⟨n0, n1, n2, n3, n4, n5, n6, n7, n8, n9⟩, q1, q2, q3, q4⟩ := id hM
  have hn6 : N_n (S_N S) ≤ 6 := ok.1.1
  have hnT := nI_toInt (show N_n (S_N S) < 2 ^ 31 by omega)
  refine ab_C.of (L := [some (.ref 56), some (.int sh), some (.int lane), some (.int i), some (.int v), none]) rfl rfl (Nat.le_of_ble_eq_true rfl) (fun l => ?_)
  obtain ⟨⟨gl, hl, al⟩, ⟨gz, hz, az⟩, ⟨gi, hi, ai⟩, ⟨gv, hv⟩⟩ := id q2
  refine aw_iload_n d_M_item_0 rfl ?_
  refine aw_s0i d_M_item_1 k_M_156 ok_M_isSheet rfl ⟨rfl, rfl⟩ (c_M_isSheet sh) rfl rfl (Nat.le_of_ble_eq_true rfl) ?_
  refine aw_if_eq (tgt := 14) d_M_item_4 (by decide) (fun c4 => ?_) (fun c4 => ?_)
  · refine aw_iconst (v := (-1)) d_M_item_14 (by decide) ?_
    refine aw_ireturn d_M_item_15 rfl rfl ?_
    refine ⟨_, S, rfl, ?_, ⟨⟨tab, la, at_, wr, ve, fs, ft, m0, by omega, by omega, m3, m4, m5, m6⟩, ⟨n0, n1, n2, n3, n4, n5, n6, n7, n8, n9⟩, q1, q2, q3, q4⟩, rfl, fun k _ => rfl⟩
    have e9 : sp_fault S sh lane i 1 = -1 := by
      unfold sp_fault
      rw [if_neg]
      intro q
      first
        | exact of_decide_eq_false (ab_bl_0.mp c11) q.2
        | exact of_decide_eq_false (ab_bl_0.mp c4) q.1
    unfold sp_item
    rw [e9, if_pos (by decide)]
  · refine aw_iload_n d_M_item_7 rfl ?_
    refine aw_s0i d_M_item_8 k_M_159 ok_M_isLane rfl ⟨rfl, rfl⟩ (c_M_isLane lane) rfl rfl (Nat.le_of_ble_eq_true rfl) ?_
    refine aw_if_ne (tgt := 16) d_M_item_11 (by decide) (fun c11 => ?_) (fun c11 => ?_)
    · have k4 := of_decide_eq_true (ab_bl_1.mp c4)
      have k11 := of_decide_eq_true (ab_bl_1.mp c11)
      obtain ⟨s, hs, rfl⟩ := irC (n := 3) k4
      refine aw_aload_n d_M_item_16 rfl ?_
      refine aw_iload_n d_M_item_17 rfl ?_
      refine aw_iload_n d_M_item_18 rfl ?_
      refine aw_iload_n d_M_item_19 rfl ?_
      refine aw_iconst (v := nI 1) d_M_item_20 (by decide) ?_
      refine aw_v0i d_M_item_21 k_M_162 ok_M_finds rfl ⟨rfl, rfl⟩ cl_Model m0 (c_M_finds ok m0 hl al hz az s (by omega) lane i (nI 1)) rfl rfl (Nat.le_of_ble_eq_true rfl) ?_
      rw [show sp_finds S s lane i (nI 1).toInt = sp_fault S (nI s) lane i 1 from (sp_ff (by omega) k11 1).symm]
      refine aw_topi (fun v24 ev24 => ?_)
      refine aw_istore (L' := [some (.ref 56), some (.int (nI s)), some (.int lane), some (.int i), some (.int v), some (.int v24)]) d_M_item_24 ⟨by decide, rfl⟩ rfl ?_
      refine aw_iload d_M_item_26 rfl ?_
      refine aw_if_ge (tgt := 34) d_M_item_28 (by decide) (fun c28 => ?_) (fun c28 => ?_)
      · obtain ⟨s9, j, hs9, e9, rfl, hj, hj2, hf0, hla, hlr⟩ := sp_fault_ok (sh := nI s) (lane := lane) (i := i) (n := 1) ok (by decide) (fun q => by rw [← ev24] at q; exact absurd c28 (Int32.not_le.mpr q))
        refine aw_aload_n d_M_item_34 rfl ?_
        refine aw_get (k := 44) d_M_item_35 cl_Model k_M_112 (by decide) m0 rfl ?_
        refine aw_bipush (v := nI 24) d_M_item_38 (by decide) ?_
        refine aw_iload_n d_M_item_40 rfl ?_
        refine aw_imul d_M_item_41 ?_
        refine aw_iload_n d_M_item_42 rfl ?_
        refine aw_iadd d_M_item_43 ?_
        rw [pk_mul, nI_add]
        refine aw_iload_n d_M_item_44 rfl ?_
        refine aw_if_ne (tgt := 54) d_M_item_45 (by decide) (fun c45 => ?_) (fun c45 => ?_)
        · refine aw_iload_n d_M_item_54 rfl ?_
          refine aw_iconst (v := nI 1) d_M_item_55 (by decide) ?_
          refine aw_icmp_ne (tgt := 65) d_M_item_56 (by decide) (fun c56 => ?_) (fun c56 => ?_)
          · refine aw_iload d_M_item_65 rfl ?_
            refine aw_iastoreN d_M_item_67 hi (by omega) (by decide) ?_
            refine aw_iconst (v := nI 1) d_M_item_68 (by decide) ?_
            refine aw_ireturn d_M_item_69 rfl rfl ?_
            refine ⟨_, S_it_ S (ud (S_it S) s (ud (S_it S s) j (if lane = 0 then v.toInt8.toInt32 else if lane = 1 then v.toInt16.toInt32 else v))), rfl, ?_, ⟨⟨tab, la, at_, wr, ve, fs, ft, m0, by omega, by omega, m3, m4, m5, m6⟩, ⟨n0, n1, n2, n3, n4, n5, n6, n7, n8, n9⟩, q1, ⟨⟨gl, hl, al⟩, ⟨gz, hz, az⟩, ⟨_, rfl, fun x k hx hk => ?_⟩, ⟨gv, hv⟩⟩, q3, q4⟩, rfl, (fun k hk => ab_set_ne (by omega))⟩
            · unfold sp_item
              rw [hf0, if_neg (by decide), cl_nI (show s < 2 ^ 31 by omega), cl_nI (show j < 2 ^ 31 by omega)]
              rfl
            · by_cases e : x = s
              · subst e
                show upd gi (24 * x + j) _ (24 * x + k) = ud (S_it S) x _ x k
                rw [ud_s]
                by_cases e2 : k = j
                · subst e2
                  rw [pk_us, ud_s]
                  first
                    | rw [if_pos c45]
                    | (rw [if_neg c45, if_pos (show lane = 1 from c56.trans rfl)]; done)
                    | (rw [if_neg c45, if_neg (show ¬ lane = 1 from fun q => c56 (q.trans rfl))]; done)
                · rw [pk_un (by omega), ud_n e2]; exact ai x k hx hk
              · show upd gi (24 * s + j) _ (24 * x + k) = ud (S_it S) s _ x k
                rw [ud_n e, pk_un (by omega)]
                exact ai x k hx hk
          · refine aw_iload d_M_item_59 rfl ?_
            refine aw_i2s d_M_item_61 ?_
            refine aw_goto (tgt := 67) d_M_item_62 (by decide) ?_
            refine aw_iastoreN d_M_item_67 hi (by omega) (by decide) ?_
            refine aw_iconst (v := nI 1) d_M_item_68 (by decide) ?_
            refine aw_ireturn d_M_item_69 rfl rfl ?_
            refine ⟨_, S_it_ S (ud (S_it S) s (ud (S_it S s) j (if lane = 0 then v.toInt8.toInt32 else if lane = 1 then v.toInt16.toInt32 else v))), rfl, ?_, ⟨⟨tab, la, at_, wr, ve, fs, ft, m0, by omega, by omega, m3, m4, m5, m6⟩, ⟨n0, n1, n2, n3, n4, n5, n6, n7, n8, n9⟩, q1, ⟨⟨gl, hl, al⟩, ⟨gz, hz, az⟩, ⟨_, rfl, fun x k hx hk => ?_⟩, ⟨gv, hv⟩⟩, q3, q4⟩, rfl, (fun k hk => ab_set_ne (by omega))⟩
            · unfold sp_item
              rw [hf0, if_neg (by decide), cl_nI (show s < 2 ^ 31 by omega), cl_nI (show j < 2 ^ 31 by omega)]
              rfl
            · by_cases e : x = s
              · subst e
                show upd gi (24 * x + j) _ (24 * x + k) = ud (S_it S) x _ x k
                rw [ud_s]
                by_cases e2 : k = j
                · subst e2
                  rw [pk_us, ud_s]
                  first
                    | rw [if_pos c45]
                    | (rw [if_neg c45, if_pos (show lane = 1 from c56.trans rfl)]; done)
                    | (rw [if_neg c45, if_neg (show ¬ lane = 1 from fun q => c56 (q.trans rfl))]; done)
                · rw [pk_un (by omega), ud_n e2]; exact ai x k hx hk
              · show upd gi (24 * s + j) _ (24 * x + k) = ud (S_it S) s _ x k
                rw [ud_n e, pk_un (by omega)]
                exact ai x k hx hk
        · refine aw_iload d_M_item_48 rfl ?_
          refine aw_i2b d_M_item_50 ?_
          refine aw_goto (tgt := 67) d_M_item_51 (by decide) ?_
          refine aw_iastoreN d_M_item_67 hi (by omega) (by decide) ?_
          refine aw_iconst (v := nI 1) d_M_item_68 (by decide) ?_
          refine aw_ireturn d_M_item_69 rfl rfl ?_
          refine ⟨_, S_it_ S (ud (S_it S) s (ud (S_it S s) j (if lane = 0 then v.toInt8.toInt32 else if lane = 1 then v.toInt16.toInt32 else v))), rfl, ?_, ⟨⟨tab, la, at_, wr, ve, fs, ft, m0, by omega, by omega, m3, m4, m5, m6⟩, ⟨n0, n1, n2, n3, n4, n5, n6, n7, n8, n9⟩, q1, ⟨⟨gl, hl, al⟩, ⟨gz, hz, az⟩, ⟨_, rfl, fun x k hx hk => ?_⟩, ⟨gv, hv⟩⟩, q3, q4⟩, rfl, (fun k hk => ab_set_ne (by omega))⟩
          · unfold sp_item
            rw [hf0, if_neg (by decide), cl_nI (show s < 2 ^ 31 by omega), cl_nI (show j < 2 ^ 31 by omega)]
            rfl
          · by_cases e : x = s
            · subst e
              show upd gi (24 * x + j) _ (24 * x + k) = ud (S_it S) x _ x k
              rw [ud_s]
              by_cases e2 : k = j
              · subst e2
                rw [pk_us, ud_s]
                first
                  | rw [if_pos c45]
                  | (rw [if_neg c45, if_pos (show lane = 1 from c56.trans rfl)]; done)
                  | (rw [if_neg c45, if_neg (show ¬ lane = 1 from fun q => c56 (q.trans rfl))]; done)
              · rw [pk_un (by omega), ud_n e2]; exact ai x k hx hk
            · show upd gi (24 * s + j) _ (24 * x + k) = ud (S_it S) s _ x k
              rw [ud_n e, pk_un (by omega)]
              exact ai x k hx hk
      · refine aw_iload d_M_item_31 rfl ?_
        refine aw_ireturn d_M_item_33 rfl rfl ?_
        refine ⟨_, S, rfl, ?_, ⟨⟨tab, la, at_, wr, ve, fs, ft, m0, by omega, by omega, m3, m4, m5, m6⟩, ⟨n0, n1, n2, n3, n4, n5, n6, n7, n8, n9⟩, q1, q2, q3, q4⟩, rfl, fun k _ => rfl⟩
        unfold sp_item
        rw [if_pos (by rw [← ev24]; exact Int32.not_le.mp c28), ev24]
    · refine aw_iconst (v := (-1)) d_M_item_14 (by decide) ?_
      refine aw_ireturn d_M_item_15 rfl rfl ?_
      refine ⟨_, S, rfl, ?_, ⟨⟨tab, la, at_, wr, ve, fs, ft, m0, by omega, by omega, m3, m4, m5, m6⟩, ⟨n0, n1, n2, n3, n4, n5, n6, n7, n8, n9⟩, q1, q2, q3, q4⟩, rfl, fun k _ => rfl⟩
      have e9 : sp_fault S sh lane i 1 = -1 := by
        unfold sp_fault
        rw [if_neg]
        intro q
        first
          | exact of_decide_eq_false (ab_bl_0.mp c11) q.2
          | exact of_decide_eq_false (ab_bl_0.mp c4) q.1
      unfold sp_item
      rw [e9, if_pos (by decide)]
theorem l_sheet {X : ab_X} {l : Launch} {Q : Option Value → Nat → ab_H → Prop} {m : Nat} {h : ab_H} {us : Nat × Nat} {n ns ra se : Nat} {me mi tab ve la : Int32} {tl : Nat} {at_ wr : Int32} {fe : Nat} {kp : Bool} (hM : h 56 = oM n ns ra se me mi tab ve la tl at_ wr fe kp) {s : Nat} (hs : s < 4) {lane z : Int32} {g0 : Nat → Int32}
    (ex : ∀ g : Nat → Int32, (∀ k, k < 24 → g (24 * s + k) = 0) → (∀ k, (k < 24 * s ∨ 24 * s + 24 ≤ k) → g k = g0 k) → ab_W Y_M_sheet X l Q 72 [some (.ref 56), some (.int (nI s)), some (.int lane), some (.int z), some (.int (nI 24))] [] m (ab_set h 87 (.inl (96, g))) us) :
    ∀ k i (g : Nat → Int32), i + k = 24 → (∀ k, k < i → g (24 * s + k) = 0) → (∀ k, (k < 24 * s ∨ 24 * s + 24 ≤ k) → g k = g0 k) → ab_W Y_M_sheet X l Q 46 [some (.ref 56), some (.int (nI s)), some (.int lane), some (.int z), some (.int (nI i))] [] m (ab_set h 87 (.inl (96, g))) us := by
  intro k
  induction k with
  | zero =>
    intro i g hi h1 h2
    have hi : i = 24 := by omega
    subst hi
    refine aw_iload d_M_sheet_46 rfl ?_
    refine aw_bipush (v := nI 24) d_M_sheet_48 (by decide) ?_
    refine aw_icmp_ge (tgt := 72) d_M_sheet_50 (by decide) (fun c50 => ?_) (fun c50 => ?_)
    · exact ex g h1 h2
    · exact absurd (Int32.le_refl _) c50
  | succ k ih =>
    intro i g hi h1 h2
    refine aw_iload d_M_sheet_46 rfl ?_
    refine aw_bipush (v := nI 24) d_M_sheet_48 (by decide) ?_
    refine aw_icmp_ge (tgt := 72) d_M_sheet_50 (by decide) (fun c50 => ?_) (fun c50 => ?_)
    · exact absurd c50 (nI_ge (by omega) (by decide))
    · refine aw_aload_n d_M_sheet_53 rfl ?_
      refine aw_get (k := 44) d_M_sheet_54 cl_Model k_M_112 (by decide) hM rfl ?_
      refine aw_bipush (v := nI 24) d_M_sheet_57 (by decide) ?_
      refine aw_iload_n d_M_sheet_59 rfl ?_
      refine aw_imul d_M_sheet_60 ?_
      refine aw_iload d_M_sheet_61 rfl ?_
      refine aw_iadd d_M_sheet_63 ?_
      rw [pk_mul, nI_add]
      refine aw_iconst (v := nI 0) d_M_sheet_64 (by decide) ?_
      refine aw_iastoreN d_M_sheet_65 rfl (by omega) (by decide) ?_
      rw [ab_set_set]
      refine aw_iinc (v := nI (i + 1)) (L' := [some (.ref 56), some (.int (nI s)), some (.int lane), some (.int z), some (.int (nI (i + 1)))]) d_M_sheet_66 rfl (nI_1 _) ⟨by decide, rfl⟩ rfl ?_
      refine aw_goto (tgt := 46) d_M_sheet_69 (by decide) ?_
      refine ih (i + 1) _ (by omega) (fun k hk => ?_) (fun k hk => ?_)
      · by_cases e : k = i
        · subst e; rw [pk_us]; rfl
        · rw [pk_un (by omega)]; exact h1 k (by omega)
      · rw [pk_un (by omega)]; exact h2 k hk
theorem y_sheet {V : VV} {m c : Nat} {h : ab_H} {S : SS} (hM : PM V c h S) (ok : S_ok S) (hc : c < 900)  (sh lane z : Int32) : CM V Y_M_sheet [.int sh, .int lane, .int z] m c h (fun r S2 => (r, S2) = sp_sheet S sh lane z) := by
  obtain ⟨⟨tab, la, at_, wr, ve, fs, ft, m0, m1, m2, m3, m4, m5, m6⟩, ⟨n0, n1, n2, n3, n4, n5, n6, n7, n8, n9⟩, q1, q2, q3, q4⟩ := id hM
  have hn6 : N_n (S_N S) ≤ 6 := ok.1.1
  have hnT := nI_toInt (show N_n (S_N S) < 2 ^ 31 by omega)
  refine ab_C.of (L := [some (.ref 56), some (.int sh), some (.int lane), some (.int z), none]) rfl rfl (Nat.le_of_ble_eq_true rfl) (fun l => ?_)
  obtain ⟨⟨gl, hl, al⟩, ⟨gz, hz, az⟩, ⟨gi, hi, ai⟩, ⟨gv, hv⟩⟩ := id q2
  refine aw_iload_n d_M_sheet_0 rfl ?_
  refine aw_s0i d_M_sheet_1 k_M_156 ok_M_isSheet rfl ⟨rfl, rfl⟩ (c_M_isSheet sh) rfl rfl (Nat.le_of_ble_eq_true rfl) ?_
  refine aw_if_eq (tgt := 20) d_M_sheet_4 (by decide) (fun c4 => ?_) (fun c4 => ?_)
  · refine aw_iconst (v := (-1)) d_M_sheet_20 (by decide) ?_
    refine aw_ireturn d_M_sheet_21 rfl rfl ?_
    refine ⟨_, S, rfl, ?_, ⟨⟨tab, la, at_, wr, ve, fs, ft, m0, by omega, by omega, m3, m4, m5, m6⟩, ⟨n0, n1, n2, n3, n4, n5, n6, n7, n8, n9⟩, q1, q2, q3, q4⟩, rfl, fun k _ => rfl⟩
    unfold sp_sheet
    rw [if_neg]
    intro q
    first
      | (rw [fa_le] at c17; simp only [ti24] at c17; exact c17 q.2.2)
      | exact of_decide_eq_false (ab_bl_0.mp c11) q.2.1
      | exact of_decide_eq_false (ab_bl_0.mp c4) q.1
  · refine aw_iload_n d_M_sheet_7 rfl ?_
    refine aw_s0i d_M_sheet_8 k_M_159 ok_M_isLane rfl ⟨rfl, rfl⟩ (c_M_isLane lane) rfl rfl (Nat.le_of_ble_eq_true rfl) ?_
    refine aw_if_eq (tgt := 20) d_M_sheet_11 (by decide) (fun c11 => ?_) (fun c11 => ?_)
    · refine aw_iconst (v := (-1)) d_M_sheet_20 (by decide) ?_
      refine aw_ireturn d_M_sheet_21 rfl rfl ?_
      refine ⟨_, S, rfl, ?_, ⟨⟨tab, la, at_, wr, ve, fs, ft, m0, by omega, by omega, m3, m4, m5, m6⟩, ⟨n0, n1, n2, n3, n4, n5, n6, n7, n8, n9⟩, q1, q2, q3, q4⟩, rfl, fun k _ => rfl⟩
      unfold sp_sheet
      rw [if_neg]
      intro q
      first
        | (rw [fa_le] at c17; simp only [ti24] at c17; exact c17 q.2.2)
        | exact of_decide_eq_false (ab_bl_0.mp c11) q.2.1
        | exact of_decide_eq_false (ab_bl_0.mp c4) q.1
    · refine aw_iload_n d_M_sheet_14 rfl ?_
      refine aw_bipush (v := nI 24) d_M_sheet_15 (by decide) ?_
      refine aw_icmp_le (tgt := 22) d_M_sheet_17 (by decide) (fun c17 => ?_) (fun c17 => ?_)
      · refine aw_iload_n d_M_sheet_22 rfl ?_
        refine aw_if_ge (tgt := 29) d_M_sheet_23 (by decide) (fun c23 => ?_) (fun c23 => ?_)
        · have k4 := of_decide_eq_true (ab_bl_1.mp c4)
          have k11 := of_decide_eq_true (ab_bl_1.mp c11)
          obtain ⟨s, hs, rfl⟩ := irC (n := 3) k4
          refine aw_aload_n d_M_sheet_29 rfl ?_
          refine aw_get (k := 42) d_M_sheet_30 cl_Model k_M_106 (by decide) m0 rfl ?_
          refine aw_iload_n d_M_sheet_33 rfl ?_
          refine aw_iload_n d_M_sheet_34 rfl ?_
          refine aw_iastoreN d_M_sheet_35 hl (by omega) (by decide) ?_
          refine aw_aload_n d_M_sheet_36 rfl ?_
          refine aw_get (k := 43) d_M_sheet_37 cl_Model k_M_109 (by decide) m0 rfl ?_
          refine aw_iload_n d_M_sheet_40 rfl ?_
          refine aw_iload_n d_M_sheet_41 rfl ?_
          refine aw_iastoreN d_M_sheet_42 hz (by omega) (by decide) ?_
          refine aw_iconst (v := nI 0) d_M_sheet_43 (by decide) ?_
          refine aw_istore (L' := [some (.ref 56), some (.int (nI s)), some (.int lane), some (.int z), some (.int (nI 0))]) d_M_sheet_44 ⟨by decide, rfl⟩ rfl ?_
          have lp := l_sheet (X := none) (l := l) (Q := fun r m2 h2 => ∃ (v : Int32) (S2 : SS), r = some (.int v) ∧ (v, S2) = sp_sheet S (nI s) lane z ∧ PM V (c + 1) h2 S2 ∧ m2 = m ∧ ∀ k, (k < 56 ∨ 88 < k) → h2 k = h k) (m := m) (us := (0, 0)) (h := ab_set (ab_set h 85 (.inl (4, upd gl s lane))) 86 (.inl (4, upd gz s z))) m0 (s := s) (by omega) (lane := lane) (z := z) (g0 := gi) (fun g e1 e2 => ?_) 24 0 gi (by omega) (fun k hk => absurd hk (by omega)) (fun k hk => rfl)
          · rw [ab_set_eq (show ab_set (ab_set h 85 (.inl (4, upd gl s lane))) 86 (.inl (4, upd gz s z)) 87 = _ from hi)] at lp
            exact lp
          · have m0' : ab_set (ab_set (ab_set h 85 (.inl (4, upd gl s lane))) 86 (.inl (4, upd gz s z))) 87 (.inl (96, g)) 56 = _ := m0
            refine aw_iload_n d_M_sheet_72 rfl ?_
            refine aw_ireturn d_M_sheet_73 rfl rfl ?_
            refine ⟨_, S_la_ (S_sz_ (S_it_ S (ud (S_it S) s (fun _ => 0))) (ud (S_sz S) s z)) (ud (S_la S) s lane), rfl, ?_, ⟨⟨tab, la, at_, wr, ve, fs, ft, m0, by omega, by omega, m3, m4, m5, m6⟩, ⟨n0, n1, n2, n3, n4, n5, n6, n7, n8, n9⟩, q1, ⟨ex_.up rfl al, ex_.up rfl az, ⟨g, rfl, fun x k hx hk => ?_⟩, ⟨gv, hv⟩⟩, q3, q4⟩, rfl, (fun k hk => by rw [ab_set_ne (by omega), ab_set_ne (by omega), ab_set_ne (by omega)])⟩
            · unfold sp_sheet
              rw [fa_le] at c17 c23
              simp only [Int32.toInt_zero, ti24] at c17 c23
              rw [if_pos ⟨k4, k11, c17⟩, if_neg (by omega), cl_nI (show s < 2 ^ 31 by omega)]
            · by_cases e : x = s
              · subst e
                show g (24 * x + k) = ud (S_it S) x (fun _ => 0) x k
                rw [ud_s]
                exact e1 k hk
              · show g (24 * x + k) = ud (S_it S) s (fun _ => 0) x k
                rw [ud_n e, e2 _ (by omega)]
                exact ai x k hx hk
        · refine aw_bipush (v := (-14)) d_M_sheet_26 (by decide) ?_
          refine aw_ireturn d_M_sheet_28 rfl rfl ?_
          refine ⟨_, S, rfl, ?_, ⟨⟨tab, la, at_, wr, ve, fs, ft, m0, by omega, by omega, m3, m4, m5, m6⟩, ⟨n0, n1, n2, n3, n4, n5, n6, n7, n8, n9⟩, q1, q2, q3, q4⟩, rfl, fun k _ => rfl⟩
          unfold sp_sheet
          rw [fa_le] at c17 c23
          simp only [Int32.toInt_zero, ti24] at c17 c23
          rw [if_pos ⟨of_decide_eq_true (ab_bl_1.mp c4), of_decide_eq_true (ab_bl_1.mp c11), c17⟩, if_pos (by omega)]
      · refine aw_iconst (v := (-1)) d_M_sheet_20 (by decide) ?_
        refine aw_ireturn d_M_sheet_21 rfl rfl ?_
        refine ⟨_, S, rfl, ?_, ⟨⟨tab, la, at_, wr, ve, fs, ft, m0, by omega, by omega, m3, m4, m5, m6⟩, ⟨n0, n1, n2, n3, n4, n5, n6, n7, n8, n9⟩, q1, q2, q3, q4⟩, rfl, fun k _ => rfl⟩
        unfold sp_sheet
        rw [if_neg]
        intro q
        first
          | (rw [fa_le] at c17; simp only [ti24] at c17; exact c17 q.2.2)
          | exact of_decide_eq_false (ab_bl_0.mp c11) q.2.1
          | exact of_decide_eq_false (ab_bl_0.mp c4) q.1
