theorem c_bitX {m : Nat} {h : ab_H} (x : Int32) : ab_C Y_JI_bitCount [.int x] m h (fun r m2 h2 => ∃ v : Int32, r = some (.int v) ∧ (∀ s, s < 64 → x = nI s → v = nI (pop s)) ∧ m2 = m ∧ h2 = h) := by
  refine ab_C.of (L := [some (.int x)]) rfl rfl (Nat.le_of_ble_eq_true rfl) (fun l => ?_)
  refine aw_iload_n d_JI_bitCount_0 rfl ?_
  refine aw_iload_n d_JI_bitCount_1 rfl ?_
  refine aw_iconst (v := nI 1) d_JI_bitCount_2 (by decide) ?_
  refine aw_iushr d_JI_bitCount_3 ?_
  refine aw_ldc_w (v := nI 1431655765) d_JI_bitCount_4 k_JI_265 ?_
  refine aw_iand d_JI_bitCount_7 ?_
  refine aw_isub d_JI_bitCount_8 ?_
  refine aw_topi (fun v9 ev9 => ?_)
  refine aw_istore_n (L' := [some (.int v9)]) d_JI_bitCount_9 ⟨by decide, rfl⟩ rfl ?_
  refine aw_iload_n d_JI_bitCount_10 rfl ?_
  refine aw_ldc_w (v := nI 858993459) d_JI_bitCount_11 k_JI_266 ?_
  refine aw_iand d_JI_bitCount_14 ?_
  refine aw_iload_n d_JI_bitCount_15 rfl ?_
  refine aw_iconst (v := nI 2) d_JI_bitCount_16 (by decide) ?_
  refine aw_iushr d_JI_bitCount_17 ?_
  refine aw_ldc_w (v := nI 858993459) d_JI_bitCount_18 k_JI_266 ?_
  refine aw_iand d_JI_bitCount_21 ?_
  refine aw_iadd d_JI_bitCount_22 ?_
  refine aw_topi (fun v23 ev23 => ?_)
  refine aw_istore_n (L' := [some (.int v23)]) d_JI_bitCount_23 ⟨by decide, rfl⟩ rfl ?_
  refine aw_iload_n d_JI_bitCount_24 rfl ?_
  refine aw_iload_n d_JI_bitCount_25 rfl ?_
  refine aw_iconst (v := nI 4) d_JI_bitCount_26 (by decide) ?_
  refine aw_iushr d_JI_bitCount_27 ?_
  refine aw_iadd d_JI_bitCount_28 ?_
  refine aw_ldc_w (v := nI 252645135) d_JI_bitCount_29 k_JI_267 ?_
  refine aw_iand d_JI_bitCount_32 ?_
  refine aw_topi (fun v33 ev33 => ?_)
  refine aw_istore_n (L' := [some (.int v33)]) d_JI_bitCount_33 ⟨by decide, rfl⟩ rfl ?_
  refine aw_iload_n d_JI_bitCount_34 rfl ?_
  refine aw_iload_n d_JI_bitCount_35 rfl ?_
  refine aw_bipush (v := nI 8) d_JI_bitCount_36 (by decide) ?_
  refine aw_iushr d_JI_bitCount_38 ?_
  refine aw_iadd d_JI_bitCount_39 ?_
  refine aw_topi (fun v40 ev40 => ?_)
  refine aw_istore_n (L' := [some (.int v40)]) d_JI_bitCount_40 ⟨by decide, rfl⟩ rfl ?_
  refine aw_iload_n d_JI_bitCount_41 rfl ?_
  refine aw_iload_n d_JI_bitCount_42 rfl ?_
  refine aw_bipush (v := nI 16) d_JI_bitCount_43 (by decide) ?_
  refine aw_iushr d_JI_bitCount_45 ?_
  refine aw_iadd d_JI_bitCount_46 ?_
  refine aw_topi (fun v47 ev47 => ?_)
  refine aw_istore_n (L' := [some (.int v47)]) d_JI_bitCount_47 ⟨by decide, rfl⟩ rfl ?_
  refine aw_iload_n d_JI_bitCount_48 rfl ?_
  refine aw_bipush (v := nI 63) d_JI_bitCount_49 (by decide) ?_
  refine aw_iand d_JI_bitCount_51 ?_
  refine aw_ireturn d_JI_bitCount_52 rfl rfl ?_
  refine ⟨_, rfl, fun s hs e => ?_, rfl, rfl⟩
  subst ev47 ev40 ev33 ev23 ev9 e
  clear l h m
  revert s
  decide +kernel
theorem dv {a c : Nat} (ha : a < 2 ^ 31) (h0 : 0 < c) (hc : c < 2 ^ 31) : nI a / nI c = nI (a / c) := pk_div ha h0 hc
theorem rm {a c : Nat} (ha : a < 2 ^ 31) (h0 : 0 < c) (hc : c < 2 ^ 31) : nI a - nI a / nI c * nI c = nI (a % c) := pk_rem ha h0 hc
theorem pop_2 : ∀ s, s < 64 → (pop s < 2 ∨ 0 < s) := by decide +kernel
theorem c_pairThere {m : Nat} {h : ab_H} {N : NS} (hX : NX h 2 N) (ok : N_ok N) {a b : Nat} (ha : a < 2 ^ 31) (hb : b < 2 ^ 31) : ab_D Y_Meetings_pairThere [.ref 2, .int (nI a), .int (nI b)] m h (some (.int (nI (whoP (N_n N) a b)))) m (h) := by
  refine ab_C.of (L := [some (.ref 2), some (.int (nI a)), some (.int (nI b))]) rfl rfl (Nat.le_of_ble_eq_true rfl) (fun l => ?_)
  obtain ⟨n0, ⟨gx, hx, ax⟩, ⟨gy, hy, ay⟩, ⟨gm, hm, am⟩, ⟨gl, hl, al⟩, ⟨ga, ha9, aa⟩, ⟨gi, hi, ai⟩, ⟨gj, hj0, aj⟩, ⟨gf, hf0, af⟩⟩ := id hX
  have hn6 : N_n N ≤ 6 := ok.1
  have hns : N_ns N ≤ 4 := ok.2.2.2.2.2.2.2.2.1
  have hpm := ok.pm
  have hw6 := ok.w6
  have hfx := ok.2.2.1
  have bx := ok.2.2.2.2.2.1
  have bi := ok.2.2.2.2.2.2.2.2.2.1
  refine aw_iload_n d_Meetings_pairThere_0 rfl ?_
  refine aw_iload_n d_Meetings_pairThere_1 rfl ?_
  refine aw_icmp_ge (tgt := 23) d_Meetings_pairThere_2 (by decide) (fun c2 => ?_) (fun c2 => ?_)
  · refine aw_iconst (v := nI 0) d_Meetings_pairThere_23 (by decide) ?_
    refine aw_ireturn d_Meetings_pairThere_24 rfl rfl ?_
    refine ⟨congrArg (fun z => some (Value.int z)) ?_, rfl, rfl⟩
    unfold whoP
    first
      | (rw [if_pos ⟨Nat.not_le.mp (fun q => c2 (nI_le q ha)), Nat.not_le.mp (fun q => c10 (nI_le q hb))⟩, ← fa_or]; done)
      | (rw [if_neg (fun q => absurd ((nI_leI hb ha).mp c2) (by omega))]; done)
      | (rw [if_neg (fun q => absurd ((nI_leI (by omega) hb).mp c10) (by omega))]; done)
  · refine aw_iload_n d_Meetings_pairThere_5 rfl ?_
    refine aw_aload_n d_Meetings_pairThere_6 rfl ?_
    refine aw_get (k := 0) d_Meetings_pairThere_7 cl_Night k_Meetings_20 (by decide) n0 rfl ?_
    refine aw_icmp_ge (tgt := 23) d_Meetings_pairThere_10 (by decide) (fun c10 => ?_) (fun c10 => ?_)
    · refine aw_iconst (v := nI 0) d_Meetings_pairThere_23 (by decide) ?_
      refine aw_ireturn d_Meetings_pairThere_24 rfl rfl ?_
      refine ⟨congrArg (fun z => some (Value.int z)) ?_, rfl, rfl⟩
      unfold whoP
      first
        | (rw [if_pos ⟨Nat.not_le.mp (fun q => c2 (nI_le q ha)), Nat.not_le.mp (fun q => c10 (nI_le q hb))⟩, ← fa_or]; done)
        | (rw [if_neg (fun q => absurd ((nI_leI hb ha).mp c2) (by omega))]; done)
        | (rw [if_neg (fun q => absurd ((nI_leI (by omega) hb).mp c10) (by omega))]; done)
    · have k2 := Nat.not_le.mp (fun q => c2 (nI_le q ha))
      have k10 := Nat.not_le.mp (fun q => c10 (nI_le q hb))
      refine aw_iconst (v := nI 1) d_Meetings_pairThere_13 (by decide) ?_
      refine aw_iload_n d_Meetings_pairThere_14 rfl ?_
      refine aw_ishl d_Meetings_pairThere_15 ?_
      refine aw_iconst (v := nI 1) d_Meetings_pairThere_16 (by decide) ?_
      refine aw_iload_n d_Meetings_pairThere_17 rfl ?_
      refine aw_ishl d_Meetings_pairThere_18 ?_
      rw [b_one (show a < 32 by omega), b_one (show b < 32 by omega)]
      refine aw_ior d_Meetings_pairThere_19 ?_
      refine aw_goto (tgt := 24) d_Meetings_pairThere_20 (by decide) ?_
      refine aw_ireturn d_Meetings_pairThere_24 rfl rfl ?_
      refine ⟨congrArg (fun z => some (Value.int z)) ?_, rfl, rfl⟩
      unfold whoP
      first
        | (rw [if_pos ⟨Nat.not_le.mp (fun q => c2 (nI_le q ha)), Nat.not_le.mp (fun q => c10 (nI_le q hb))⟩, ← fa_or]; done)
        | (rw [if_neg (fun q => absurd ((nI_leI hb ha).mp c2) (by omega))]; done)
        | (rw [if_neg (fun q => absurd ((nI_leI (by omega) hb).mp c10) (by omega))]; done)
theorem c_innThere {m : Nat} {h : ab_H} {N : NS} (hX : NX h 2 N) (ok : N_ok N) {i s : Nat} (hi9 : i < 2 ^ 31) (hs : s < 2 ^ 31) : ab_D Y_Meetings_innThere [.ref 2, .int (nI i), .int (nI s)] m h (some (.int (nI (whoI N i s)))) m (h) := by
  refine ab_C.of (L := [some (.ref 2), some (.int (nI i)), some (.int (nI s)), none]) rfl rfl (Nat.le_of_ble_eq_true rfl) (fun l => ?_)
  obtain ⟨n0, ⟨gx, hx, ax⟩, ⟨gy, hy, ay⟩, ⟨gm, hm, am⟩, ⟨gl, hl, al⟩, ⟨ga, ha, aa⟩, ⟨gi, hi, ai⟩, ⟨gj, hj0, aj⟩, ⟨gf, hf0, af⟩⟩ := id hX
  have hn6 : N_n N ≤ 6 := ok.1
  have hns : N_ns N ≤ 4 := ok.2.2.2.2.2.2.2.2.1
  have hpm := ok.pm
  have hw6 := ok.w6
  have hfx := ok.2.2.1
  have bx := ok.2.2.2.2.2.1
  have bi := ok.2.2.2.2.2.2.2.2.2.1
  have hse := ok.2.2.2.2.2.2.2.2.2.2.2.2.2.1
  have h63 := b_63 (N_n N) hn6
  have h2n := Nat.two_pow_pos (N_n N)
  refine aw_iload_n d_Meetings_innThere_0 rfl ?_
  refine aw_s0 d_Meetings_innThere_1 k_Meetings_26 ok_JI_bitCount rfl ⟨rfl, rfl⟩ (c_bitX (nI s)) rfl rfl (Nat.le_of_ble_eq_true rfl) (fun r m2 h2 q => ?_)
  obtain ⟨bc, rfl, hbc, em, rfl⟩ := q
  rw [em]
  show ab_W _ _ _ _ 4 _ [.int bc] _ _ _
  refine aw_istore_n (L' := [some (.ref 2), some (.int (nI i)), some (.int (nI s)), some (.int bc)]) d_Meetings_innThere_4 ⟨by decide, rfl⟩ rfl ?_
  refine aw_iload_n d_Meetings_innThere_5 rfl ?_
  refine aw_aload_n d_Meetings_innThere_6 rfl ?_
  refine aw_get (k := 8) d_Meetings_innThere_7 cl_Night k_Meetings_32 (by decide) n0 rfl ?_
  refine aw_icmp_ge (tgt := 38) d_Meetings_innThere_10 (by decide) (fun c10 => ?_) (fun c10 => ?_)
  · refine aw_iconst (v := nI 0) d_Meetings_innThere_38 (by decide) ?_
    refine aw_ireturn d_Meetings_innThere_39 rfl rfl ?_
    refine ⟨congrArg (fun z => some (Value.int z)) ?_, rfl, rfl⟩
    unfold whoI
    first
      | (rw [if_neg (fun q => absurd ((nI_leI (by omega) hi9).mp c10) (by omega))]; done)
      | (have c18b := c18
         rw [fa_lt, nI_toInt hs, nI_toInt (show 2 ^ N_n N - 1 < 2 ^ 31 by omega)] at c18b
         rw [if_neg (fun q => by have := q.2.1; omega)]; done)
      | (rw [if_neg (fun q => by rw [fa_lt, hbT, ti2] at c23; have := q.2.2.1; omega)]; done)
      | (rw [if_neg (fun q => by rw [fa_lt, hbT, nI_toInt (show N_se N < 2 ^ 31 by omega)] at c31; have := q.2.2.2; omega)]; done)
      | (rw [if_pos ⟨Nat.not_le.mp (fun q => c10 (nI_le q hi9)), hs2, by rw [fa_lt, hbT, ti2] at c23; omega, by rw [fa_lt, hbT, nI_toInt (show N_se N < 2 ^ 31 by omega)] at c31; omega⟩]; done)
  · refine aw_iload_n d_Meetings_innThere_13 rfl ?_
    refine aw_aload_n d_Meetings_innThere_14 rfl ?_
    refine aw_v0i (a := 2) d_Meetings_innThere_15 k_Meetings_35 ok_Night_all rfl ⟨rfl, rfl⟩ cl_Night n0 (c_all2 n0 hn6) rfl rfl (Nat.le_of_ble_eq_true rfl) ?_
    refine aw_icmp_gt (tgt := 38) d_Meetings_innThere_18 (by decide) (fun c18 => ?_) (fun c18 => ?_)
    · refine aw_iconst (v := nI 0) d_Meetings_innThere_38 (by decide) ?_
      refine aw_ireturn d_Meetings_innThere_39 rfl rfl ?_
      refine ⟨congrArg (fun z => some (Value.int z)) ?_, rfl, rfl⟩
      unfold whoI
      first
        | (rw [if_neg (fun q => absurd ((nI_leI (by omega) hi9).mp c10) (by omega))]; done)
        | (have c18b := c18
           rw [fa_lt, nI_toInt hs, nI_toInt (show 2 ^ N_n N - 1 < 2 ^ 31 by omega)] at c18b
           rw [if_neg (fun q => by have := q.2.1; omega)]; done)
        | (rw [if_neg (fun q => by rw [fa_lt, hbT, ti2] at c23; have := q.2.2.1; omega)]; done)
        | (rw [if_neg (fun q => by rw [fa_lt, hbT, nI_toInt (show N_se N < 2 ^ 31 by omega)] at c31; have := q.2.2.2; omega)]; done)
        | (rw [if_pos ⟨Nat.not_le.mp (fun q => c10 (nI_le q hi9)), hs2, by rw [fa_lt, hbT, ti2] at c23; omega, by rw [fa_lt, hbT, nI_toInt (show N_se N < 2 ^ 31 by omega)] at c31; omega⟩]; done)
    · have hs2 : s < 2 ^ N_n N := by
        have := (nI_leI hs (by omega)).mp (Int32.not_lt.mp c18)
        omega
      have hs6 : s < 64 := by omega
      have hb1 := hbc s hs6 rfl
      have hpl := pop_le s
      have hbT : bc.toInt = pop s := by rw [hb1]; exact nI_toInt (by omega)
      refine aw_iload_n d_Meetings_innThere_21 rfl ?_
      refine aw_iconst (v := nI 2) d_Meetings_innThere_22 (by decide) ?_
      refine aw_icmp_lt (tgt := 38) d_Meetings_innThere_23 (by decide) (fun c23 => ?_) (fun c23 => ?_)
      · refine aw_iconst (v := nI 0) d_Meetings_innThere_38 (by decide) ?_
        refine aw_ireturn d_Meetings_innThere_39 rfl rfl ?_
        refine ⟨congrArg (fun z => some (Value.int z)) ?_, rfl, rfl⟩
        unfold whoI
        first
          | (rw [if_neg (fun q => absurd ((nI_leI (by omega) hi9).mp c10) (by omega))]; done)
          | (have c18b := c18
             rw [fa_lt, nI_toInt hs, nI_toInt (show 2 ^ N_n N - 1 < 2 ^ 31 by omega)] at c18b
             rw [if_neg (fun q => by have := q.2.1; omega)]; done)
          | (rw [if_neg (fun q => by rw [fa_lt, hbT, ti2] at c23; have := q.2.2.1; omega)]; done)
          | (rw [if_neg (fun q => by rw [fa_lt, hbT, nI_toInt (show N_se N < 2 ^ 31 by omega)] at c31; have := q.2.2.2; omega)]; done)
          | (rw [if_pos ⟨Nat.not_le.mp (fun q => c10 (nI_le q hi9)), hs2, by rw [fa_lt, hbT, ti2] at c23; omega, by rw [fa_lt, hbT, nI_toInt (show N_se N < 2 ^ 31 by omega)] at c31; omega⟩]; done)
      · refine aw_iload_n d_Meetings_innThere_26 rfl ?_
        refine aw_aload_n d_Meetings_innThere_27 rfl ?_
        refine aw_get (k := 12) d_Meetings_innThere_28 cl_Night k_Meetings_39 (by decide) n0 rfl ?_
        refine aw_icmp_gt (tgt := 38) d_Meetings_innThere_31 (by decide) (fun c31 => ?_) (fun c31 => ?_)
        · refine aw_iconst (v := nI 0) d_Meetings_innThere_38 (by decide) ?_
          refine aw_ireturn d_Meetings_innThere_39 rfl rfl ?_
          refine ⟨congrArg (fun z => some (Value.int z)) ?_, rfl, rfl⟩
          unfold whoI
          first
            | (rw [if_neg (fun q => absurd ((nI_leI (by omega) hi9).mp c10) (by omega))]; done)
            | (have c18b := c18
               rw [fa_lt, nI_toInt hs, nI_toInt (show 2 ^ N_n N - 1 < 2 ^ 31 by omega)] at c18b
               rw [if_neg (fun q => by have := q.2.1; omega)]; done)
            | (rw [if_neg (fun q => by rw [fa_lt, hbT, ti2] at c23; have := q.2.2.1; omega)]; done)
            | (rw [if_neg (fun q => by rw [fa_lt, hbT, nI_toInt (show N_se N < 2 ^ 31 by omega)] at c31; have := q.2.2.2; omega)]; done)
            | (rw [if_pos ⟨Nat.not_le.mp (fun q => c10 (nI_le q hi9)), hs2, by rw [fa_lt, hbT, ti2] at c23; omega, by rw [fa_lt, hbT, nI_toInt (show N_se N < 2 ^ 31 by omega)] at c31; omega⟩]; done)
        · refine aw_iload_n d_Meetings_innThere_34 rfl ?_
          refine aw_goto (tgt := 39) d_Meetings_innThere_35 (by decide) ?_
          refine aw_ireturn d_Meetings_innThere_39 rfl rfl ?_
          refine ⟨congrArg (fun z => some (Value.int z)) ?_, rfl, rfl⟩
          unfold whoI
          first
            | (rw [if_neg (fun q => absurd ((nI_leI (by omega) hi9).mp c10) (by omega))]; done)
            | (have c18b := c18
               rw [fa_lt, nI_toInt hs, nI_toInt (show 2 ^ N_n N - 1 < 2 ^ 31 by omega)] at c18b
               rw [if_neg (fun q => by have := q.2.1; omega)]; done)
            | (rw [if_neg (fun q => by rw [fa_lt, hbT, ti2] at c23; have := q.2.2.1; omega)]; done)
            | (rw [if_neg (fun q => by rw [fa_lt, hbT, nI_toInt (show N_se N < 2 ^ 31 by omega)] at c31; have := q.2.2.2; omega)]; done)
            | (rw [if_pos ⟨Nat.not_le.mp (fun q => c10 (nI_le q hi9)), hs2, by rw [fa_lt, hbT, ti2] at c23; omega, by rw [fa_lt, hbT, nI_toInt (show N_se N < 2 ^ 31 by omega)] at c31; omega⟩]; done)
theorem c_postThere {m : Nat} {h : ab_H} {N : NS} (hX : NX h 2 N) (ok : N_ok N) {r : Nat} (hr : r < 2 ^ 31) : ab_D Y_Meetings_postThere [.ref 2, .int (nI r)] m h (some (.int (nI (whoR (N_n N) (N_t N) r)))) m (h) := by
  refine ab_C.of (L := [some (.ref 2), some (.int (nI r)), none]) rfl rfl (Nat.le_of_ble_eq_true rfl) (fun l => ?_)
  obtain ⟨n0, ⟨gx, hx, ax⟩, ⟨gy, hy, ay⟩, ⟨gm, hm, am⟩, ⟨gl, hl, al⟩, ⟨ga, ha, aa⟩, ⟨gi, hi, ai⟩, ⟨gj, hj0, aj⟩, ⟨gf, hf0, af⟩⟩ := id hX
  have hn6 : N_n N ≤ 6 := ok.1
  have hns : N_ns N ≤ 4 := ok.2.2.2.2.2.2.2.2.1
  have hpm := ok.pm
  have hw6 := ok.w6
  have hfx := ok.2.2.1
  have bx := ok.2.2.2.2.2.1
  have bi := ok.2.2.2.2.2.2.2.2.2.1
  refine aw_iload_n d_Meetings_postThere_0 rfl ?_
  refine aw_aload_n d_Meetings_postThere_1 rfl ?_
  refine aw_get (k := 0) d_Meetings_postThere_2 cl_Night k_Meetings_20 (by decide) n0 rfl ?_
  refine aw_icmp_lt (tgt := 10) d_Meetings_postThere_5 (by decide) (fun c5 => ?_) (fun c5 => ?_)
  · have hrn : r < N_n N := (nI_ltI hr (by omega)).mp c5
    have hrg := (rg_t hpm (show r < 6 by omega)).2.2.1
    have hpl := pop_le (rg (N_t N) r)
    refine aw_aload_n d_Meetings_postThere_10 rfl ?_
    refine aw_get (k := 6) d_Meetings_postThere_11 cl_Night k_Meetings_42 (by decide) n0 rfl ?_
    refine aw_iload_n d_Meetings_postThere_14 rfl ?_
    refine aw_s0i d_Meetings_postThere_15 k_Meetings_45 ok_Rows_ring rfl ⟨rfl, rfl⟩ (c_ring hpm (show r < 6 by omega)) rfl rfl (Nat.le_of_ble_eq_true rfl) ?_
    refine aw_istore_n (L' := [some (.ref 2), some (.int (nI r)), some (.int (nI (rg (N_t N) r)))]) d_Meetings_postThere_18 ⟨by decide, rfl⟩ rfl ?_
    refine aw_iload_n d_Meetings_postThere_19 rfl ?_
    refine aw_iload_n d_Meetings_postThere_20 rfl ?_
    refine aw_s0i d_Meetings_postThere_21 k_Meetings_51 ok_Rows_isLeast rfl ⟨rfl, rfl⟩ (c_isLeast hrg (show r < 6 by omega)) rfl rfl (Nat.le_of_ble_eq_true rfl) ?_
    refine aw_if_eq (tgt := 39) d_Meetings_postThere_24 (by decide) (fun c24 => ?_) (fun c24 => ?_)
    · refine aw_iconst (v := nI 0) d_Meetings_postThere_39 (by decide) ?_
      refine aw_ireturn d_Meetings_postThere_40 rfl rfl ?_
      refine ⟨congrArg (fun z => some (Value.int z)) ?_, rfl, rfl⟩
      unfold whoR
      first
        | (rw [if_neg (fun q => c5 (nI_lt q.1 (by omega)))]; done)
        | (rw [if_neg (fun q => of_decide_eq_false (ab_bl_0.mp c24) q.2.1)]; done)
        | (rw [if_neg (fun q => absurd ((nI_leI (by omega) (by decide)).mp c32) (by omega))]; done)
        | (rw [if_pos ⟨hrn, of_decide_eq_true (ab_bl_1.mp c24), Nat.not_le.mp (fun q => c32 (nI_le q (by decide)))⟩]; done)
    · refine aw_iload_n d_Meetings_postThere_27 rfl ?_
      refine aw_s0i d_Meetings_postThere_28 k_Meetings_26 ok_JI_bitCount rfl ⟨rfl, rfl⟩ (c_bitCount _ hrg) rfl rfl (Nat.le_of_ble_eq_true rfl) ?_
      refine aw_iconst (v := nI 1) d_Meetings_postThere_31 (by decide) ?_
      refine aw_icmp_le (tgt := 39) d_Meetings_postThere_32 (by decide) (fun c32 => ?_) (fun c32 => ?_)
      · refine aw_iconst (v := nI 0) d_Meetings_postThere_39 (by decide) ?_
        refine aw_ireturn d_Meetings_postThere_40 rfl rfl ?_
        refine ⟨congrArg (fun z => some (Value.int z)) ?_, rfl, rfl⟩
        unfold whoR
        first
          | (rw [if_neg (fun q => c5 (nI_lt q.1 (by omega)))]; done)
          | (rw [if_neg (fun q => of_decide_eq_false (ab_bl_0.mp c24) q.2.1)]; done)
          | (rw [if_neg (fun q => absurd ((nI_leI (by omega) (by decide)).mp c32) (by omega))]; done)
          | (rw [if_pos ⟨hrn, of_decide_eq_true (ab_bl_1.mp c24), Nat.not_le.mp (fun q => c32 (nI_le q (by decide)))⟩]; done)
      · refine aw_iload_n d_Meetings_postThere_35 rfl ?_
        refine aw_goto (tgt := 40) d_Meetings_postThere_36 (by decide) ?_
        refine aw_ireturn d_Meetings_postThere_40 rfl rfl ?_
        refine ⟨congrArg (fun z => some (Value.int z)) ?_, rfl, rfl⟩
        unfold whoR
        first
          | (rw [if_neg (fun q => c5 (nI_lt q.1 (by omega)))]; done)
          | (rw [if_neg (fun q => of_decide_eq_false (ab_bl_0.mp c24) q.2.1)]; done)
          | (rw [if_neg (fun q => absurd ((nI_leI (by omega) (by decide)).mp c32) (by omega))]; done)
          | (rw [if_pos ⟨hrn, of_decide_eq_true (ab_bl_1.mp c24), Nat.not_le.mp (fun q => c32 (nI_le q (by decide)))⟩]; done)
  · refine aw_iconst (v := nI 0) d_Meetings_postThere_8 (by decide) ?_
    refine aw_ireturn d_Meetings_postThere_9 rfl rfl ?_
    refine ⟨congrArg (fun z => some (Value.int z)) ?_, rfl, rfl⟩
    unfold whoR
    first
      | (rw [if_neg (fun q => c5 (nI_lt q.1 (by omega)))]; done)
      | (rw [if_neg (fun q => of_decide_eq_false (ab_bl_0.mp c24) q.2.1)]; done)
      | (rw [if_neg (fun q => absurd ((nI_leI (by omega) (by decide)).mp c32) (by omega))]; done)
      | (rw [if_pos ⟨hrn, of_decide_eq_true (ab_bl_1.mp c24), Nat.not_le.mp (fun q => c32 (nI_le q (by decide)))⟩]; done)
theorem c_there {m : Nat} {h : ab_H} {N : NS} (hX : NX h 2 N) (ok : N_ok N) {k : Nat} (hk : k < 2 ^ 31) : ab_D Y_Meetings_there [.ref 2, .int (nI k)] m h (some (.int (nI (who N (N_t N) k)))) m (h) := by
  refine ab_C.of (L := [some (.ref 2), some (.int (nI k)), none]) rfl rfl (Nat.le_of_ble_eq_true rfl) (fun l => ?_)
  obtain ⟨n0, ⟨gx, hx, ax⟩, ⟨gy, hy, ay⟩, ⟨gm, hm, am⟩, ⟨gl, hl, al⟩, ⟨ga, ha, aa⟩, ⟨gi, hi, ai⟩, ⟨gj, hj0, aj⟩, ⟨gf, hf0, af⟩⟩ := id hX
  have hn6 : N_n N ≤ 6 := ok.1
  have hns : N_ns N ≤ 4 := ok.2.2.2.2.2.2.2.2.1
  have hpm := ok.pm
  have hw6 := ok.w6
  have hfx := ok.2.2.1
  have bx := ok.2.2.2.2.2.1
  have bi := ok.2.2.2.2.2.2.2.2.2.1
  refine aw_iload_n d_Meetings_there_0 rfl ?_
  refine aw_if_ge (tgt := 6) d_Meetings_there_1 (by decide) (fun c1 => ?_) (fun c1 => ?_)
  · refine aw_iload_n d_Meetings_there_6 rfl ?_
    refine aw_sipush (v := nI 10000) d_Meetings_there_7 (by decide) ?_
    refine aw_irem d_Meetings_there_10 (by decide) ?_
    rw [rm hk (by decide) (by decide)]
    refine aw_istore_n (L' := [some (.ref 2), some (.int (nI k)), some (.int (nI (k % 10000)))]) d_Meetings_there_11 ⟨by decide, rfl⟩ rfl ?_
    refine aw_iload_n d_Meetings_there_12 rfl ?_
    refine aw_sipush (v := nI 10000) d_Meetings_there_13 (by decide) ?_
    refine aw_idiv d_Meetings_there_16 (by decide) ?_
    rw [dv hk (by decide) (by decide)]
    rcases ab_sw (nI (k / 10000)) 2 (by decide) with c17 | ⟨j17, hj17, ej17⟩
    · refine aw_tableOut (tgt := 78) d_Meetings_there_17 c17 (by decide) ?_
      refine aw_iconst (v := nI 0) d_Meetings_there_78 (by decide) ?_
      refine aw_ireturn d_Meetings_there_79 rfl rfl ?_
      refine ⟨congrArg (fun z => some (Value.int z)) ?_, rfl, rfl⟩
      rw [nI_toInt (show k / 10000 < 2 ^ 31 by omega)] at c17
      unfold who
      rw [if_neg (by omega), if_neg (by omega), if_neg (by omega)]
    · match j17, hj17, ej17 with
      | 0, _, ej17 =>
        rw [ej17]
        refine aw_tableIn (tgt := 44) (off := 27) d_Meetings_there_17 ⟨by decide, by decide⟩ (by decide) (by decide) ?_
        refine aw_aload_n d_Meetings_there_44 rfl ?_
        refine aw_iload_n d_Meetings_there_45 rfl ?_
        refine aw_bipush (v := nI 100) d_Meetings_there_46 (by decide) ?_
        refine aw_idiv d_Meetings_there_48 (by decide) ?_
        rw [dv (by omega) (by decide) (by decide)]
        refine aw_iload_n d_Meetings_there_49 rfl ?_
        refine aw_bipush (v := nI 100) d_Meetings_there_50 (by decide) ?_
        refine aw_irem d_Meetings_there_52 (by decide) ?_
        rw [rm (by omega) (by decide) (by decide)]
        refine aw_s0i d_Meetings_there_53 k_Meetings_9 ok_Meetings_pairThere rfl ⟨rfl, rfl⟩ (c_pairThere hX ok (a := k % 10000 / 100) (b := k % 10000 % 100) (by omega) (by omega)) rfl rfl (Nat.le_of_ble_eq_true rfl) ?_
        refine aw_ireturn d_Meetings_there_56 rfl rfl ?_
        have k0 : k / 10000 = 0 := (nI_eq (by omega) (by decide)).mp ej17
        refine ⟨congrArg (fun z => some (Value.int z)) ?_, rfl, rfl⟩
        unfold who
        rw [if_pos k0]
      | 1, _, ej17 =>
        rw [ej17]
        refine aw_tableIn (tgt := 57) (off := 40) d_Meetings_there_17 ⟨by decide, by decide⟩ (by decide) (by decide) ?_
        refine aw_aload_n d_Meetings_there_57 rfl ?_
        refine aw_iload_n d_Meetings_there_58 rfl ?_
        refine aw_sipush (v := nI 1000) d_Meetings_there_59 (by decide) ?_
        refine aw_idiv d_Meetings_there_62 (by decide) ?_
        rw [dv (by omega) (by decide) (by decide)]
        refine aw_iload_n d_Meetings_there_63 rfl ?_
        refine aw_sipush (v := nI 1000) d_Meetings_there_64 (by decide) ?_
        refine aw_irem d_Meetings_there_67 (by decide) ?_
        rw [rm (by omega) (by decide) (by decide)]
        refine aw_s0i d_Meetings_there_68 k_Meetings_13 ok_Meetings_innThere rfl ⟨rfl, rfl⟩ (c_innThere hX ok (i := k % 10000 / 1000) (s := k % 10000 % 1000) (by omega) (by omega)) rfl rfl (Nat.le_of_ble_eq_true rfl) ?_
        refine aw_ireturn d_Meetings_there_71 rfl rfl ?_
        have k0 : k / 10000 = 1 := (nI_eq (by omega) (by decide)).mp ej17
        refine ⟨congrArg (fun z => some (Value.int z)) ?_, rfl, rfl⟩
        unfold who
        rw [if_neg (by omega), if_pos k0]
      | 2, _, ej17 =>
        rw [ej17]
        refine aw_tableIn (tgt := 72) (off := 55) d_Meetings_there_17 ⟨by decide, by decide⟩ (by decide) (by decide) ?_
        refine aw_aload_n d_Meetings_there_72 rfl ?_
        refine aw_iload_n d_Meetings_there_73 rfl ?_
        refine aw_s0i d_Meetings_there_74 k_Meetings_16 ok_Meetings_postThere rfl ⟨rfl, rfl⟩ (c_postThere hX ok (r := k % 10000) (by omega)) rfl rfl (Nat.le_of_ble_eq_true rfl) ?_
        refine aw_ireturn d_Meetings_there_77 rfl rfl ?_
        have k0 : k / 10000 = 2 := (nI_eq (by omega) (by decide)).mp ej17
        refine ⟨congrArg (fun z => some (Value.int z)) ?_, rfl, rfl⟩
        unfold who
        rw [if_neg (by omega), if_neg (by omega), if_pos k0]
      | k + 3, hj17, _ => exact absurd hj17 (by omega)
  · exact absurd (nI_le (a := 0) (Nat.zero_le _) hk) c1
theorem c_milesOf {m : Nat} {h : ab_H} {N : NS} (hX : NX h 2 N) (ok : N_ok N) {k : Nat} (hk : k < 2 ^ 31) {s : Nat} (hs : s < 64) (h0 : k / 10000 = 0 → k % 10000 / 100 < 6 ∧ k % 10000 % 100 < 6) (h1 : k / 10000 = 1 → k % 10000 / 1000 < 4) (h2 : k / 10000 ≤ 2) : ab_D Y_Meetings_milesOf [.ref 2, .int (nI k), .int (nI s)] m h (some (.int (nI (mil N (N_t N) k s)))) m (h) := by
  refine ab_C.of (L := [some (.ref 2), some (.int (nI k)), some (.int (nI s)), none]) rfl rfl (Nat.le_of_ble_eq_true rfl) (fun l => ?_)
  obtain ⟨n0, ⟨gx, hx, ax⟩, ⟨gy, hy, ay⟩, ⟨gm, hm, am⟩, ⟨gl, hl, al⟩, ⟨ga, ha, aa⟩, ⟨gi, hi, ai⟩, ⟨gj, hj0, aj⟩, ⟨gf, hf0, af⟩⟩ := id hX
  have hn6 : N_n N ≤ 6 := ok.1
  have hns : N_ns N ≤ 4 := ok.2.2.2.2.2.2.2.2.1
  have hpm := ok.pm
  have hw6 := ok.w6
  have hfx := ok.2.2.1
  have bx := ok.2.2.2.2.2.1
  have bi := ok.2.2.2.2.2.2.2.2.2.1
  refine aw_iload_n d_Meetings_milesOf_0 rfl ?_
  refine aw_sipush (v := nI 10000) d_Meetings_milesOf_1 (by decide) ?_
  refine aw_irem d_Meetings_milesOf_4 (by decide) ?_
  rw [rm hk (by decide) (by decide)]
  refine aw_istore_n (L' := [some (.ref 2), some (.int (nI k)), some (.int (nI s)), some (.int (nI (k % 10000)))]) d_Meetings_milesOf_5 ⟨by decide, rfl⟩ rfl ?_
  refine aw_iload_n d_Meetings_milesOf_6 rfl ?_
  refine aw_sipush (v := nI 10000) d_Meetings_milesOf_7 (by decide) ?_
  refine aw_idiv d_Meetings_milesOf_10 (by decide) ?_
  rw [dv hk (by decide) (by decide)]
  have hk3 : k / 10000 = 0 ∨ k / 10000 = 1 ∨ k / 10000 = 2 := by omega
  rcases hk3 with k0 | k0 | k0
  · rw [k0]
    refine aw_lookup (off := 25) (tgt := 36) d_Meetings_milesOf_11 (by decide) (by decide) (by decide) ?_
    refine aw_iconst (v := nI 2) d_Meetings_milesOf_36 (by decide) ?_
    refine aw_aload_n d_Meetings_milesOf_37 rfl ?_
    refine aw_iload_n d_Meetings_milesOf_38 rfl ?_
    refine aw_bipush (v := nI 100) d_Meetings_milesOf_39 (by decide) ?_
    refine aw_idiv d_Meetings_milesOf_41 (by decide) ?_
    rw [dv (by omega) (by decide) (by decide)]
    refine aw_iload_n d_Meetings_milesOf_42 rfl ?_
    refine aw_bipush (v := nI 100) d_Meetings_milesOf_43 (by decide) ?_
    refine aw_irem d_Meetings_milesOf_45 (by decide) ?_
    rw [rm (by omega) (by decide) (by decide)]
    refine aw_v0i (a := 2) d_Meetings_milesOf_46 k_Meetings_55 ok_Night_far rfl ⟨rfl, rfl⟩ cl_Night n0 (c_far hX ok (h0 k0).1 (h0 k0).2) rfl rfl (Nat.le_of_ble_eq_true rfl) ?_
    refine aw_imul d_Meetings_milesOf_49 ?_
    refine aw_ireturn d_Meetings_milesOf_50 rfl rfl ?_
    refine ⟨congrArg (fun z => some (Value.int z)) ?_, rfl, rfl⟩
    unfold mil
    rw [if_pos k0, pk_mul]
  · rw [k0]
    refine aw_lookup (off := 40) (tgt := 51) d_Meetings_milesOf_11 (by decide) (by decide) (by decide) ?_
    refine aw_iconst (v := nI 2) d_Meetings_milesOf_51 (by decide) ?_
    refine aw_aload_n d_Meetings_milesOf_52 rfl ?_
    refine aw_iload_n d_Meetings_milesOf_53 rfl ?_
    refine aw_sipush (v := nI 1000) d_Meetings_milesOf_54 (by decide) ?_
    refine aw_idiv d_Meetings_milesOf_57 (by decide) ?_
    rw [dv (by omega) (by decide) (by decide)]
    refine aw_iload_n d_Meetings_milesOf_58 rfl ?_
    refine aw_v0i (a := 2) d_Meetings_milesOf_59 k_Meetings_58 ok_Night_farToInn rfl ⟨rfl, rfl⟩ cl_Night n0 (c_toInn hX ok (h1 k0) (show s < 2 ^ 31 by omega)) rfl rfl (Nat.le_of_ble_eq_true rfl) ?_
    refine aw_imul d_Meetings_milesOf_62 ?_
    refine aw_ireturn d_Meetings_milesOf_63 rfl rfl ?_
    refine ⟨congrArg (fun z => some (Value.int z)) ?_, rfl, rfl⟩
    unfold mil
    rw [if_neg (by omega), if_pos k0, pk_mul]
  · rw [k0]
    refine aw_lookup (off := 53) (tgt := 64) d_Meetings_milesOf_11 (by decide) (by decide) (by decide) ?_
    refine aw_aload_n d_Meetings_milesOf_64 rfl ?_
    refine aw_get (k := 11) d_Meetings_milesOf_65 cl_Night k_Meetings_61 (by decide) n0 rfl ?_
    refine aw_aload_n d_Meetings_milesOf_68 rfl ?_
    refine aw_aload_n d_Meetings_milesOf_69 rfl ?_
    refine aw_get (k := 6) d_Meetings_milesOf_70 cl_Night k_Meetings_42 (by decide) n0 rfl ?_
    refine aw_iload_n d_Meetings_milesOf_73 rfl ?_
    refine aw_v0i (a := 2) d_Meetings_milesOf_74 k_Meetings_64 ok_Night_farFromOwners rfl ⟨rfl, rfl⟩ cl_Night n0 (c_ffo hX ok hpm (show s < 2 ^ 31 by omega)) rfl rfl (Nat.le_of_ble_eq_true rfl) ?_
    refine aw_imul d_Meetings_milesOf_77 ?_
    refine aw_ireturn d_Meetings_milesOf_78 rfl rfl ?_
    refine ⟨congrArg (fun z => some (Value.int z)) ?_, rfl, rfl⟩
    unfold mil
    rw [if_neg (by omega), if_neg (by omega), pk_mul]
theorem c_after {m : Nat} {h : ab_H} {t : Nat → Nat} (ht : Pm t) {k : Nat} (hk : k < 2 ^ 31) {s : Nat} (hs : s < 64) (h0 : k / 10000 = 0 → k / 100 < 6 ∧ k % 100 < 6) : ab_D Y_Meetings_after [.int (nI (pk t)), .int (nI k), .int (nI s)] m h (some (.int (nI (pk (aft t k s))))) m (h) := by
  refine ab_C.of (L := [some (.int (nI (pk t))), some (.int (nI k)), some (.int (nI s))]) rfl rfl (Nat.le_of_ble_eq_true rfl) (fun l => ?_)
  refine aw_iload_n d_Meetings_after_0 rfl ?_
  refine aw_sipush (v := nI 10000) d_Meetings_after_1 (by decide) ?_
  refine aw_idiv d_Meetings_after_4 (by decide) ?_
  rw [dv hk (by decide) (by decide)]
  refine aw_if_ne (tgt := 21) d_Meetings_after_5 (by decide) (fun c5 => ?_) (fun c5 => ?_)
  · refine aw_iload_n d_Meetings_after_21 rfl ?_
    refine aw_iload_n d_Meetings_after_22 rfl ?_
    refine aw_s0i d_Meetings_after_23 k_Meetings_71 ok_Rows_settled rfl ⟨rfl, rfl⟩ (c_settled ht hs) rfl rfl (Nat.le_of_ble_eq_true rfl) ?_
    refine aw_ireturn d_Meetings_after_26 rfl rfl ?_
    exact ⟨by rw [aft, if_neg (fun q => c5 (by rw [q]; rfl))], rfl, rfl⟩
  · have k0 : k / 10000 = 0 := (nI_eq (b := 0) (by omega) (by decide)).mp c5
    refine aw_iload_n d_Meetings_after_8 rfl ?_
    refine aw_iload_n d_Meetings_after_9 rfl ?_
    refine aw_bipush (v := nI 100) d_Meetings_after_10 (by decide) ?_
    refine aw_idiv d_Meetings_after_12 (by decide) ?_
    rw [dv hk (by decide) (by decide)]
    refine aw_iload_n d_Meetings_after_13 rfl ?_
    refine aw_bipush (v := nI 100) d_Meetings_after_14 (by decide) ?_
    refine aw_irem d_Meetings_after_16 (by decide) ?_
    rw [rm hk (by decide) (by decide)]
    refine aw_s0i d_Meetings_after_17 k_Meetings_67 ok_Rows_swapped rfl ⟨rfl, rfl⟩ (c_swapped ht.lt8 (h0 k0).1 (h0 k0).2) rfl rfl (Nat.le_of_ble_eq_true rfl) ?_
    refine aw_ireturn d_Meetings_after_20 rfl rfl ?_
    exact ⟨by rw [aft, if_pos k0], rfl, rfl⟩
theorem c_thereN {m : Nat} {h : ab_H} {x : Int32} (hx : x.toInt < 0) : ab_D Y_Meetings_there [.ref 2, .int x] m h (some (.int (nI 0))) m h := by
  refine ab_C.of (L := [some (.ref 2), some (.int x), none]) rfl rfl (Nat.le_of_ble_eq_true rfl) (fun l => ?_)
  refine aw_iload_n d_Meetings_there_0 rfl ?_
  refine aw_if_ge (tgt := 6) d_Meetings_there_1 (by decide) (fun c1 => ?_) (fun c1 => ?_)
  · exact absurd c1 (by rw [fa_le, Int32.toInt_zero]; omega)
  · refine aw_iconst (v := nI 0) d_Meetings_there_4 (by decide) ?_
    refine aw_ireturn d_Meetings_there_5 rfl rfl ?_
    exact ⟨rfl, rfl, rfl⟩
theorem x_meet {V : VV} {m : Nat} {h : ab_H} {S : SS} (hX : PX V m h S) (ok : S_ok S)  (x : Int32) : CX V Y_Coat_meet [.int x] m h (fun r S2 => (r, S2) = sp_meet S x) := by
  obtain ⟨⟨a0, ⟨n0, n1, n2, n3, n4, n5, n6, n7, n8⟩, a2⟩, p1, p2, p3, p4, p5, p6, p7⟩ := id hX
  have hn6 : N_n (S_N S) ≤ 6 := ok.1.1
  have hnT := nI_toInt (show N_n (S_N S) < 2 ^ 31 by omega)
  have hpm := ok.1.pm
  have hw6 := ok.1.w6
  have hfx := ok.1.2.2.1
  have hNX : NX h 2 (S_N S) := ⟨n0, n1, n2, n3, n4, n5, n6, n7, n8⟩
  refine ab_C.of (L := [some (.ref 1), some (.int x), none, none]) rfl rfl (Nat.le_of_ble_eq_true rfl) (fun l => ?_)
  by_cases hx : x.toInt < 0
  · refine aw_aload_n d_Coat_meet_0 rfl ?_
    refine aw_get (k := 0) d_Coat_meet_1 cl_Coat k_Coat_10 (by decide) a0 rfl ?_
    refine aw_iload_n d_Coat_meet_4 rfl ?_
    refine aw_s0i d_Coat_meet_5 k_Coat_180 ok_Meetings_there rfl ⟨rfl, rfl⟩ (c_thereN hx) rfl rfl (Nat.le_of_ble_eq_true rfl) ?_
    refine aw_istore_n (L' := [some (.ref 1), some (.int x), some (.int (nI 0)), none]) d_Coat_meet_8 ⟨by decide, rfl⟩ rfl ?_
    refine aw_iload_n d_Coat_meet_9 rfl ?_
    refine aw_if_ne (tgt := 15) d_Coat_meet_10 (by decide) (fun c10 => ?_) (fun c10 => ?_)
    · first | exact absurd c10 (by decide) | exact absurd (by decide) c10
    · refine aw_iconst (v := (-1)) d_Coat_meet_13 (by decide) ?_
      refine aw_ireturn d_Coat_meet_14 rfl rfl ?_
      refine ⟨_, S, rfl, ?_, hX, Nat.le_refl _, fun k _ _ => rfl⟩
      unfold sp_meet
      rw [if_pos (Or.inl hx)]
  obtain ⟨k, hk, rfl⟩ : ∃ k : Nat, k < 2 ^ 31 ∧ x = nI k := nI_of (fun q => hx (by rw [fa_lt, Int32.toInt_zero] at q; exact q))
  refine aw_aload_n d_Coat_meet_0 rfl ?_
  refine aw_get (k := 0) d_Coat_meet_1 cl_Coat k_Coat_10 (by decide) a0 rfl ?_
  refine aw_iload_n d_Coat_meet_4 rfl ?_
  refine aw_s0i d_Coat_meet_5 k_Coat_180 ok_Meetings_there rfl ⟨rfl, rfl⟩ (c_there hNX ok.1 hk) rfl rfl (Nat.le_of_ble_eq_true rfl) ?_
  refine aw_istore_n (L' := [some (.ref 1), some (.int (nI k)), some (.int (nI (who (S_N S) (N_t (S_N S)) k))), none]) d_Coat_meet_8 ⟨by decide, rfl⟩ rfl ?_
  refine aw_iload_n d_Coat_meet_9 rfl ?_
  refine aw_if_ne (tgt := 15) d_Coat_meet_10 (by decide) (fun c10 => ?_) (fun c10 => ?_)
  · have hne : ¬ who (S_N S) (N_t (S_N S)) k = 0 := fun q => c10 (by rw [q]; rfl)
    obtain ⟨wl, wk⟩ := who_t ok.1 hpm hfx hne
    have wl6 := two_le6 hn6 wl
    have w2 : k / 10000 ≤ 2 := by omega
    have w0 : k / 10000 = 0 → k % 10000 / 100 < 6 ∧ k % 10000 % 100 < 6 := fun q => by omega
    have w1 : k / 10000 = 1 → k % 10000 / 1000 < 4 := fun q => by have := ok.1.2.2.2.2.2.2.2.2.1; omega
    have w3 : k / 10000 = 0 → k / 100 < 6 ∧ k % 100 < 6 := fun q => by omega
    refine aw_iload_n d_Coat_meet_15 rfl ?_
    refine aw_aload_n d_Coat_meet_16 rfl ?_
    refine aw_get (k := 0) d_Coat_meet_17 cl_Coat k_Coat_10 (by decide) a0 rfl ?_
    refine aw_get (k := 7) d_Coat_meet_20 cl_Night k_Coat_120 (by decide) n0 rfl ?_
    refine aw_iand d_Coat_meet_23 ?_
    rw [fa_and]
    refine aw_if_eq (tgt := 30) d_Coat_meet_24 (by decide) (fun c24 => ?_) (fun c24 => ?_)
    · refine aw_aload_n d_Coat_meet_30 rfl ?_
      refine aw_get (k := 0) d_Coat_meet_31 cl_Coat k_Coat_10 (by decide) a0 rfl ?_
      refine aw_iload_n d_Coat_meet_34 rfl ?_
      refine aw_iload_n d_Coat_meet_35 rfl ?_
      refine aw_s0i d_Coat_meet_36 k_Coat_186 ok_Meetings_milesOf rfl ⟨rfl, rfl⟩ (c_milesOf hNX ok.1 hk (show (who (S_N S) (N_t (S_N S)) k) < 64 by omega) w0 w1 w2) rfl rfl (Nat.le_of_ble_eq_true rfl) ?_
      refine aw_istore_n (L' := [some (.ref 1), some (.int (nI k)), some (.int (nI (who (S_N S) (N_t (S_N S)) k))), some (.int (nI (mil (S_N S) (N_t (S_N S)) k (who (S_N S) (N_t (S_N S)) k))))]) d_Coat_meet_39 ⟨by decide, rfl⟩ rfl ?_
      refine aw_aload_n d_Coat_meet_40 rfl ?_
      refine aw_get (k := 0) d_Coat_meet_41 cl_Coat k_Coat_10 (by decide) a0 rfl ?_
      refine aw_aload_n d_Coat_meet_44 rfl ?_
      refine aw_get (k := 0) d_Coat_meet_45 cl_Coat k_Coat_10 (by decide) a0 rfl ?_
      refine aw_get (k := 6) d_Coat_meet_48 cl_Night k_Coat_96 (by decide) n0 rfl ?_
      refine aw_iload_n d_Coat_meet_51 rfl ?_
      refine aw_iload_n d_Coat_meet_52 rfl ?_
      refine aw_s0i d_Coat_meet_53 k_Coat_190 ok_Meetings_after rfl ⟨rfl, rfl⟩ (c_after hpm hk (show (who (S_N S) (N_t (S_N S)) k) < 64 by omega) w3) rfl rfl (Nat.le_of_ble_eq_true rfl) ?_
      refine aw_put (k := 6) (fs' := [.int (nI (N_n (S_N S))), .ref 3, .ref 4, .ref 5, .ref 6, .ref 7, .int (nI (pk (aft (N_t (S_N S)) k (who (S_N S) (N_t (S_N S)) k)))), .int (nI (N_w (S_N S))), .int (nI (N_ns (S_N S))), .ref 8, .ref 9, .int (nI (N_ra (S_N S))), .int (nI (N_se (S_N S))), .int (N_me (S_N S)), .int (N_mi (S_N S)), .int (nI (N_fe (S_N S))), .ref 10]) d_Coat_meet_56 cl_Night k_Coat_96 (by decide) rfl ⟨rfl, rfl⟩ n0 (Nat.le_of_ble_eq_true rfl) rfl ?_
      refine aw_aload_n d_Coat_meet_59 rfl ?_
      refine aw_get (k := 0) d_Coat_meet_60 cl_Coat k_Coat_10 (by decide) a0 rfl ?_
      refine aw_dup d_Coat_meet_63 rfl ?_
      refine aw_get (k := 13) d_Coat_meet_64 cl_Night k_Coat_171 (by decide) rfl rfl ?_
      refine aw_iconst (v := nI 1) d_Coat_meet_67 (by decide) ?_
      refine aw_iadd d_Coat_meet_68 ?_
      refine aw_topi (fun v69 ev69 => ?_)
      refine aw_put (k := 13) (fs' := [.int (nI (N_n (S_N S))), .ref 3, .ref 4, .ref 5, .ref 6, .ref 7, .int (nI (pk (aft (N_t (S_N S)) k (who (S_N S) (N_t (S_N S)) k)))), .int (nI (N_w (S_N S))), .int (nI (N_ns (S_N S))), .ref 8, .ref 9, .int (nI (N_ra (S_N S))), .int (nI (N_se (S_N S))), .int v69, .int (N_mi (S_N S)), .int (nI (N_fe (S_N S))), .ref 10]) d_Coat_meet_69 cl_Night k_Coat_171 (by decide) rfl ⟨rfl, rfl⟩ rfl (Nat.le_of_ble_eq_true rfl) rfl ?_
      refine aw_aload_n d_Coat_meet_72 rfl ?_
      refine aw_get (k := 0) d_Coat_meet_73 cl_Coat k_Coat_10 (by decide) a0 rfl ?_
      refine aw_dup d_Coat_meet_76 rfl ?_
      refine aw_get (k := 14) d_Coat_meet_77 cl_Night k_Coat_174 (by decide) rfl rfl ?_
      refine aw_iload_n d_Coat_meet_80 rfl ?_
      refine aw_iadd d_Coat_meet_81 ?_
      refine aw_topi (fun v82 ev82 => ?_)
      refine aw_put (k := 14) (fs' := [.int (nI (N_n (S_N S))), .ref 3, .ref 4, .ref 5, .ref 6, .ref 7, .int (nI (pk (aft (N_t (S_N S)) k (who (S_N S) (N_t (S_N S)) k)))), .int (nI (N_w (S_N S))), .int (nI (N_ns (S_N S))), .ref 8, .ref 9, .int (nI (N_ra (S_N S))), .int (nI (N_se (S_N S))), .int v69, .int v82, .int (nI (N_fe (S_N S))), .ref 10]) d_Coat_meet_82 cl_Night k_Coat_174 (by decide) rfl ⟨rfl, rfl⟩ rfl (Nat.le_of_ble_eq_true rfl) rfl ?_
      refine aw_aload_n d_Coat_meet_85 rfl ?_
      refine aw_v0 (a := 1) d_Coat_meet_86 k_Coat_90 ok_Coat_changed rfl ⟨rfl, rfl⟩ cl_Coat a0 (c_changed (V := V) (S := S_N_ S (N_t_ (N_me_ (N_mi_ (S_N S) (N_mi (S_N S) + nI (mil (S_N S) (N_t (S_N S)) k (who (S_N S) (N_t (S_N S)) k)))) (N_me (S_N S) + nI 1)) (aft (N_t (S_N S)) k (who (S_N S) (N_t (S_N S)) k)))) (by subst ev69 ev82; rw [ab_set_set, ab_set_set]; exact PXw.scal hX (N_t_ (N_me_ (N_mi_ (S_N S) (N_mi (S_N S) + nI (mil (S_N S) (N_t (S_N S)) k (who (S_N S) (N_t (S_N S)) k)))) (N_me (S_N S) + nI 1)) (aft (N_t (S_N S)) k (who (S_N S) (N_t (S_N S)) k))) rfl rfl rfl rfl rfl rfl rfl rfl rfl)) rfl rfl (Nat.le_of_ble_eq_true rfl) (fun r m2 h2 q => ?_)
      obtain ⟨rfl, rfl, hX2, hf2⟩ := q
      refine aw_iload_n d_Coat_meet_89 rfl ?_
      refine aw_ireturn d_Coat_meet_90 rfl rfl ?_
      refine ⟨_, S_N_ S (N_t_ (N_me_ (N_mi_ (S_N S) (N_mi (S_N S) + nI (mil (S_N S) (N_t (S_N S)) k (who (S_N S) (N_t (S_N S)) k)))) (N_me (S_N S) + nI 1)) (aft (N_t (S_N S)) k (who (S_N S) (N_t (S_N S)) k))), rfl, ?_, hX2, Nat.le_refl _, fun k g1 g2 => (hf2 k g1 g2).trans (by simp only [ab_set]; repeat rw [if_neg (by omega)])⟩
      unfold sp_meet
      have hz : who (S_N S) (N_t (S_N S)) k &&& N_w (S_N S) = 0 := (nI_eq (b := 0) (by have := and_63 (b := N_w (S_N S)) wl6; omega) (by decide)).mp c24
      rw [cl_nI hk, if_neg (fun q => q.elim hx hne), if_neg (fun q => q hz)]
    · refine aw_bipush (v := (-2)) d_Coat_meet_27 (by decide) ?_
      refine aw_ireturn d_Coat_meet_29 rfl rfl ?_
      refine ⟨_, S, rfl, ?_, hX, Nat.le_refl _, fun k _ _ => rfl⟩
      unfold sp_meet
      rw [cl_nI hk, if_neg (fun q => q.elim hx hne), if_pos (fun q => c24 (by rw [q]; rfl))]
  · refine aw_iconst (v := (-1)) d_Coat_meet_13 (by decide) ?_
    refine aw_ireturn d_Coat_meet_14 rfl rfl ?_
    refine ⟨_, S, rfl, ?_, hX, Nat.le_refl _, fun k _ _ => rfl⟩
    have hwl : who (S_N S) (N_t (S_N S)) k = 0 := by
      refine Classical.byContradiction fun q => ?_
      have := two_le6 hn6 (who_t ok.1 hpm hfx q).1
      exact q ((nI_eq (b := 0) (by omega) (by decide)).mp c10)
    unfold sp_meet
    rw [cl_nI hk, if_pos (Or.inr hwl)]
