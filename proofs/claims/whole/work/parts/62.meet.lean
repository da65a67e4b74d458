/-- the set of those in a meeting -/
def whoP (n a b : Nat) : Nat := if a < b ∧ b < n then 2 ^ a ||| 2 ^ b else 0
def whoI (N : NS) (i s : Nat) : Nat := if i < N_ns N ∧ s < 2 ^ N_n N ∧ 2 ≤ pop s ∧ pop s ≤ N_se N then s else 0
def whoR (n : Nat) (t : Nat → Nat) (r : Nat) : Nat := if r < n ∧ tz (rg t r) = r ∧ 1 < pop (rg t r) then rg t r else 0
def who (N : NS) (t : Nat → Nat) (k : Nat) : Nat := if k / 10000 = 0 then whoP (N_n N) (k % 10000 / 100) (k % 10000 % 100) else if k / 10000 = 1 then whoI N (k % 10000 / 1000) (k % 10000 % 1000) else if k / 10000 = 2 then whoR (N_n N) t (k % 10000) else 0
def mil (N : NS) (t : Nat → Nat) (k s : Nat) : Nat := if k / 10000 = 0 then 2 * fr N (k % 10000 / 100) (k % 10000 % 100) else if k / 10000 = 1 then 2 * toI N (k % 10000 / 1000) s (N_n N) else N_ra N * ffo N t s (N_n N)
def aft (t : Nat → Nat) (k s : Nat) : Nat → Nat := if k / 10000 = 0 then sw t (k / 100) (k % 100) else stt t s
def sp_meet (S : SS) (x : Int32) : Int32 × SS :=
  if x.toInt < 0 ∨ who (S_N S) (N_t (S_N S)) (cl x) = 0 then (-1, S)
  else if ¬ who (S_N S) (N_t (S_N S)) (cl x) &&& N_w (S_N S) = 0 then (-2, S)
  else (nI (mil (S_N S) (N_t (S_N S)) (cl x) (who (S_N S) (N_t (S_N S)) (cl x))), S_N_ S (N_t_ (N_me_ (N_mi_ (S_N S) (N_mi (S_N S) + nI (mil (S_N S) (N_t (S_N S)) (cl x) (who (S_N S) (N_t (S_N S)) (cl x))))) (N_me (S_N S) + nI 1)) (aft (N_t (S_N S)) (cl x) (who (S_N S) (N_t (S_N S)) (cl x)))))
theorem rg_in_all : pl6.all (fun t => (List.range 6).all (fun n => !((List.range 6).all (fun k => decide (k < n) || decide (t k = k))) || (List.range n).all (fun a => decide (rg t a < 2 ^ n)))) = true := by decide +kernel
theorem rg_in {t : Nat → Nat} (ht : Pm t) {n : Nat} (hn : n ≤ 6) (hf : ∀ k, n ≤ k → t k = k) {a : Nat} (ha : a < n) : rg t a < 2 ^ n := by
  by_cases q : n = 6
  · subst q; exact (rg_t ht ha).2.2.1
  · have h := List.all_eq_true.mp (ht.all rg_in_all) n (List.mem_range.mpr (by omega))
    have e : (List.range 6).all (fun k => decide (k < n) || decide (t k = k)) = true := by
      rw [List.all_eq_true]
      intro k _
      by_cases z : k < n
      · rw [decide_eq_true z]; rfl
      · rw [decide_eq_true (hf k (by omega)), Bool.or_true]
    rw [e, Bool.not_true, Bool.false_or] at h
    exact of_decide_eq_true (List.all_eq_true.mp h a (List.mem_range.mpr ha))
theorem two_or {a b n : Nat} (ha : a < n) (hb : b < n) : 2 ^ a ||| 2 ^ b < 2 ^ n := Nat.or_lt_two_pow (Nat.pow_lt_pow_right (by decide) ha) (Nat.pow_lt_pow_right (by decide) hb)
theorem who_t {N : NS} (ok : N_ok N) {t : Nat → Nat} (ht : Pm t) (hf : ∀ k, N_n N ≤ k → t k = k) {k : Nat} (h : ¬ who N t k = 0) : who N t k < 2 ^ N_n N ∧ ((k / 10000 = 0 ∧ k % 10000 / 100 < k % 10000 % 100 ∧ k % 10000 % 100 < N_n N ∧ who N t k = 2 ^ (k % 10000 / 100) ||| 2 ^ (k % 10000 % 100)) ∨ (k / 10000 = 1 ∧ k % 10000 / 1000 < N_ns N ∧ who N t k = k % 10000 % 1000 ∧ 2 ≤ pop (who N t k) ∧ pop (who N t k) ≤ N_se N) ∨ (k / 10000 = 2 ∧ k % 10000 < N_n N ∧ who N t k = rg t (k % 10000) ∧ tz (rg t (k % 10000)) = k % 10000 ∧ 1 < pop (rg t (k % 10000)))) := by
  unfold who at h ⊢
  by_cases k0 : k / 10000 = 0
  · rw [if_pos k0] at h ⊢
    unfold whoP at h ⊢
    by_cases q : k % 10000 / 100 < k % 10000 % 100 ∧ k % 10000 % 100 < N_n N
    · rw [if_pos q]
      exact ⟨two_or (by omega) q.2, Or.inl ⟨k0, q.1, q.2, rfl⟩⟩
    · rw [if_neg q] at h
      exact absurd rfl h
  · rw [if_neg k0] at h ⊢
    by_cases k1 : k / 10000 = 1
    · rw [if_pos k1] at h ⊢
      unfold whoI at h ⊢
      by_cases q : k % 10000 / 1000 < N_ns N ∧ k % 10000 % 1000 < 2 ^ N_n N ∧ 2 ≤ pop (k % 10000 % 1000) ∧ pop (k % 10000 % 1000) ≤ N_se N
      · rw [if_pos q]
        exact ⟨q.2.1, Or.inr (Or.inl ⟨k1, q.1, rfl, q.2.2.1, q.2.2.2⟩)⟩
      · rw [if_neg q] at h
        exact absurd rfl h
    · rw [if_neg k1] at h ⊢
      by_cases k2 : k / 10000 = 2
      · rw [if_pos k2] at h ⊢
        unfold whoR at h ⊢
        by_cases q : k % 10000 < N_n N ∧ tz (rg t (k % 10000)) = k % 10000 ∧ 1 < pop (rg t (k % 10000))
        · rw [if_pos q]
          exact ⟨rg_in ht ok.1 hf q.1, Or.inr (Or.inr ⟨k2, q.1, rfl, q.2.1, q.2.2⟩)⟩
        · rw [if_neg q] at h
          exact absurd rfl h
      · rw [if_neg k2] at h
        exact absurd rfl h
theorem c_far {m : Nat} {h : ab_H} {N : NS} (hX : NX h 2 N) (ok : N_ok N) {a b : Nat} (hpa : a < 6) (hpb : b < 6) : ab_D Y_Night_far [.ref 2, .int (nI a), .int (nI b)] m h (some (.int (nI (fr N a b)))) m (h) := by
  refine ab_C.of (L := [some (.ref 2), some (.int (nI a)), some (.int (nI b))]) rfl rfl (Nat.le_of_ble_eq_true rfl) (fun l => ?_)
  obtain ⟨n0, ⟨gx, hx, ax⟩, ⟨gy, hy, ay⟩, ⟨gm, hm, am⟩, ⟨gl, hl, al⟩, ⟨ga, ha, aa⟩, ⟨gi, hi, ai⟩, ⟨gj, hj0, aj⟩, ⟨gf, hf0, af⟩⟩ := id hX
  have hn6 : N_n N ≤ 6 := ok.1
  have hns : N_ns N ≤ 4 := ok.2.2.2.2.2.2.2.2.1
  have hpm := ok.pm
  have hw6 := ok.w6
  have hfx := ok.2.2.1
  have bx := ok.2.2.2.2.2.1
  have bi := ok.2.2.2.2.2.2.2.2.2.1
  refine aw_aload_n d_Night_far_0 rfl ?_
  refine aw_get (k := 1) d_Night_far_1 cl_Night k_Night_9 (by decide) n0 rfl ?_
  refine aw_iload_n d_Night_far_4 rfl ?_
  refine aw_ialoadN d_Night_far_5 hx (by omega) (by decide) ?_
  refine aw_aload_n d_Night_far_6 rfl ?_
  refine aw_get (k := 1) d_Night_far_7 cl_Night k_Night_9 (by decide) n0 rfl ?_
  refine aw_iload_n d_Night_far_10 rfl ?_
  refine aw_ialoadN d_Night_far_11 hx (by omega) (by decide) ?_
  refine aw_isub d_Night_far_12 ?_
  refine aw_abs d_Night_far_13 k_Night_79 ⟨by decide, Nat.le_of_ble_eq_true rfl⟩ ?_
  rw [ax a hpa, ax b hpb, ad_abs (bx a hpa).1 (bx b hpb).1]
  refine aw_aload_n d_Night_far_16 rfl ?_
  refine aw_get (k := 2) d_Night_far_17 cl_Night k_Night_15 (by decide) n0 rfl ?_
  refine aw_iload_n d_Night_far_20 rfl ?_
  refine aw_ialoadN d_Night_far_21 hy (by omega) (by decide) ?_
  refine aw_aload_n d_Night_far_22 rfl ?_
  refine aw_get (k := 2) d_Night_far_23 cl_Night k_Night_15 (by decide) n0 rfl ?_
  refine aw_iload_n d_Night_far_26 rfl ?_
  refine aw_ialoadN d_Night_far_27 hy (by omega) (by decide) ?_
  refine aw_isub d_Night_far_28 ?_
  refine aw_abs d_Night_far_29 k_Night_79 ⟨by decide, Nat.le_of_ble_eq_true rfl⟩ ?_
  rw [ay a hpa, ay b hpb, ad_abs (bx a hpa).2.1 (bx b hpb).2.1]
  refine aw_iadd d_Night_far_32 ?_
  refine aw_ireturn d_Night_far_33 rfl rfl ?_
  exact ⟨by rw [nI_add]; rfl, rfl, rfl⟩
theorem c_toInn {m : Nat} {h : ab_H} {N : NS} (hX : NX h 2 N) (ok : N_ok N) {i s : Nat} (hpi : i < 4) (hs : s < 2 ^ 31) : ab_D Y_Night_farToInn [.ref 2, .int (nI i), .int (nI s)] m h (some (.int (nI (toI N i s (N_n N))))) m (h) := by
  refine ab_C.of (L := [some (.ref 2), some (.int (nI i)), some (.int (nI s)), none, none]) rfl rfl (Nat.le_of_ble_eq_true rfl) (fun l => ?_)
  obtain ⟨n0, ⟨gx, hx, ax⟩, ⟨gy, hy, ay⟩, ⟨gm, hm, am⟩, ⟨gl, hl, al⟩, ⟨ga, ha, aa⟩, ⟨gi, hi, ai⟩, ⟨gj, hj0, aj⟩, ⟨gf, hf0, af⟩⟩ := id hX
  have hn6 : N_n N ≤ 6 := ok.1
  have hns : N_ns N ≤ 4 := ok.2.2.2.2.2.2.2.2.1
  have hpm := ok.pm
  have hw6 := ok.w6
  have hfx := ok.2.2.1
  have bx := ok.2.2.2.2.2.1
  have bi := ok.2.2.2.2.2.2.2.2.2.1
  have loop : ∀ k j, j + k = N_n N → ab_W Y_Night_farToInn none l (fun r m2 h2 => r = some (.int (nI (toI N i s (N_n N)))) ∧ m2 = m ∧ h2 = h) 5 [some (.ref 2), some (.int (nI i)), some (.int (nI s)), some (.int (nI (toI N i s (j)))), some (.int (nI (j)))] [] m (h) (0, 0) := by
    intro k
    induction k with
    | zero =>
      intro j hj 
      have hjn : N_n N = j := by omega
      subst hjn
      refine aw_iload d_Night_farToInn_5 rfl ?_
      refine aw_aload_n d_Night_farToInn_7 rfl ?_
      refine aw_get (k := 0) d_Night_farToInn_8 cl_Night k_Night_55 (by decide) n0 rfl ?_
      refine aw_icmp_ge (tgt := 67) d_Night_farToInn_11 (by decide) (fun c11 => ?_) (fun c11 => ?_)
      · refine aw_iload_n d_Night_farToInn_67 rfl ?_
        refine aw_ireturn d_Night_farToInn_68 rfl rfl ?_
        exact ⟨rfl, rfl, rfl⟩
      · exact absurd (Int32.le_refl _) c11
    | succ k ih =>
      intro j hj 
      refine aw_iload d_Night_farToInn_5 rfl ?_
      refine aw_aload_n d_Night_farToInn_7 rfl ?_
      refine aw_get (k := 0) d_Night_farToInn_8 cl_Night k_Night_55 (by decide) n0 rfl ?_
      refine aw_icmp_ge (tgt := 67) d_Night_farToInn_11 (by decide) (fun c11 => ?_) (fun c11 => ?_)
      · exact absurd c11 (nI_ge (by omega) (by omega))
      · refine aw_iload_n d_Night_farToInn_14 rfl ?_
        refine aw_iload d_Night_farToInn_15 rfl ?_
        refine aw_ishr d_Night_farToInn_17 ?_
        refine aw_iconst (v := nI 1) d_Night_farToInn_18 (by decide) ?_
        refine aw_iand d_Night_farToInn_19 ?_
        rw [b_at hs (by omega)]
        refine aw_if_eq (tgt := 61) d_Night_farToInn_20 (by decide) (fun c20 => ?_) (fun c20 => ?_)
        · refine aw_iinc (v := nI ((j) + 1)) (L' := [some (.ref 2), some (.int (nI i)), some (.int (nI s)), some (.int (nI (toI N i s (j)))), some (.int (nI ((j) + 1)))]) d_Night_farToInn_61 rfl (nI_1 _) ⟨by decide, rfl⟩ rfl ?_
          refine aw_goto (tgt := 5) d_Night_farToInn_64 (by decide) ?_
          first
            | (have e : toI N i s (j + 1) = toI N i s j + fi N j i := by
                 unfold toI; rw [fb_sm_succ, if_pos (b_nz.mp c20)]
               rw [show v60 = nI (toI N i s (j + 1)) by rw [e, ev60, nI_add]; rfl]
               exact ih (j + 1) (by omega))
            | (have e : toI N i s (j + 1) = toI N i s j := by
                 unfold toI; rw [fb_sm_succ, if_neg (b_z.mp c20)]; rfl
               rw [← e]
               exact ih (j + 1) (by omega))
        · refine aw_iload_n d_Night_farToInn_23 rfl ?_
          refine aw_aload_n d_Night_farToInn_24 rfl ?_
          refine aw_get (k := 1) d_Night_farToInn_25 cl_Night k_Night_9 (by decide) n0 rfl ?_
          refine aw_iload d_Night_farToInn_28 rfl ?_
          refine aw_ialoadN d_Night_farToInn_30 hx (by omega) (by decide) ?_
          refine aw_aload_n d_Night_farToInn_31 rfl ?_
          refine aw_get (k := 9) d_Night_farToInn_32 cl_Night k_Night_34 (by decide) n0 rfl ?_
          refine aw_iload_n d_Night_farToInn_35 rfl ?_
          refine aw_ialoadN d_Night_farToInn_36 hi (by omega) (by decide) ?_
          refine aw_isub d_Night_farToInn_37 ?_
          refine aw_abs d_Night_farToInn_38 k_Night_79 ⟨by decide, Nat.le_of_ble_eq_true rfl⟩ ?_
          rw [ax j (by omega), ai i hpi, ad_abs (bx j (by omega)).1 (bi i hpi).1]
          refine aw_aload_n d_Night_farToInn_41 rfl ?_
          refine aw_get (k := 2) d_Night_farToInn_42 cl_Night k_Night_15 (by decide) n0 rfl ?_
          refine aw_iload d_Night_farToInn_45 rfl ?_
          refine aw_ialoadN d_Night_farToInn_47 hy (by omega) (by decide) ?_
          refine aw_aload_n d_Night_farToInn_48 rfl ?_
          refine aw_get (k := 10) d_Night_farToInn_49 cl_Night k_Night_37 (by decide) n0 rfl ?_
          refine aw_iload_n d_Night_farToInn_52 rfl ?_
          refine aw_ialoadN d_Night_farToInn_53 hj0 (by omega) (by decide) ?_
          refine aw_isub d_Night_farToInn_54 ?_
          refine aw_abs d_Night_farToInn_55 k_Night_79 ⟨by decide, Nat.le_of_ble_eq_true rfl⟩ ?_
          rw [ay j (by omega), aj i hpi, ad_abs (bx j (by omega)).2.1 (bi i hpi).2]
          refine aw_iadd d_Night_farToInn_58 ?_
          rw [nI_add]
          refine aw_iadd d_Night_farToInn_59 ?_
          refine aw_topi (fun v60 ev60 => ?_)
          refine aw_istore_n (L' := [some (.ref 2), some (.int (nI i)), some (.int (nI s)), some (.int v60), some (.int (nI (j)))]) d_Night_farToInn_60 ⟨by decide, rfl⟩ rfl ?_
          refine aw_iinc (v := nI ((j) + 1)) (L' := [some (.ref 2), some (.int (nI i)), some (.int (nI s)), some (.int v60), some (.int (nI ((j) + 1)))]) d_Night_farToInn_61 rfl (nI_1 _) ⟨by decide, rfl⟩ rfl ?_
          refine aw_goto (tgt := 5) d_Night_farToInn_64 (by decide) ?_
          first
            | (have e : toI N i s (j + 1) = toI N i s j + fi N j i := by
                 unfold toI; rw [fb_sm_succ, if_pos (b_nz.mp c20)]
               rw [show v60 = nI (toI N i s (j + 1)) by rw [e, ev60, nI_add]; rfl]
               exact ih (j + 1) (by omega))
            | (have e : toI N i s (j + 1) = toI N i s j := by
                 unfold toI; rw [fb_sm_succ, if_neg (b_z.mp c20)]; rfl
               rw [← e]
               exact ih (j + 1) (by omega))
  refine aw_iconst (v := nI 0) d_Night_farToInn_0 (by decide) ?_
  refine aw_istore_n (L' := [some (.ref 2), some (.int (nI i)), some (.int (nI s)), some (.int (nI 0)), none]) d_Night_farToInn_1 ⟨by decide, rfl⟩ rfl ?_
  refine aw_iconst (v := nI 0) d_Night_farToInn_2 (by decide) ?_
  refine aw_istore (L' := [some (.ref 2), some (.int (nI i)), some (.int (nI s)), some (.int (nI 0)), some (.int (nI 0))]) d_Night_farToInn_3 ⟨by decide, rfl⟩ rfl ?_
  exact loop (N_n N) 0 (by omega)
theorem c_ffo {m : Nat} {h : ab_H} {N : NS} (hX : NX h 2 N) (ok : N_ok N) {t : Nat → Nat} (ht : Pm t) {s : Nat} (hs : s < 2 ^ 31) : ab_D Y_Night_farFromOwners [.ref 2, .int (nI (pk t)), .int (nI s)] m h (some (.int (nI (ffo N t s (N_n N))))) m (h) := by
  refine ab_C.of (L := [some (.ref 2), some (.int (nI (pk t))), some (.int (nI s)), none, none, none]) rfl rfl (Nat.le_of_ble_eq_true rfl) (fun l => ?_)
  obtain ⟨n0, ⟨gx, hx, ax⟩, ⟨gy, hy, ay⟩, ⟨gm, hm, am⟩, ⟨gl, hl, al⟩, ⟨ga, ha, aa⟩, ⟨gi, hi, ai⟩, ⟨gj, hj0, aj⟩, ⟨gf, hf0, af⟩⟩ := id hX
  have hn6 : N_n N ≤ 6 := ok.1
  have hns : N_ns N ≤ 4 := ok.2.2.2.2.2.2.2.2.1
  have hpm := ok.pm
  have hw6 := ok.w6
  have hfx := ok.2.2.1
  have bx := ok.2.2.2.2.2.1
  have bi := ok.2.2.2.2.2.2.2.2.2.1
  have loop : ∀ k j, j + k = N_n N → ab_W Y_Night_farFromOwners none l (fun r m2 h2 => r = some (.int (nI (ffo N t s (N_n N)))) ∧ m2 = m ∧ h2 = h) 5 [some (.ref 2), some (.int (nI (pk t))), some (.int (nI s)), some (.int (nI (ffo N t s (j)))), some (.int (nI (j))), none] [] m (h) (0, 0) := by
    intro k
    induction k with
    | zero =>
      intro j hj 
      have hjn : N_n N = j := by omega
      subst hjn
      refine aw_iload d_Night_farFromOwners_5 rfl ?_
      refine aw_aload_n d_Night_farFromOwners_7 rfl ?_
      refine aw_get (k := 0) d_Night_farFromOwners_8 cl_Night k_Night_55 (by decide) n0 rfl ?_
      refine aw_icmp_ge (tgt := 55) d_Night_farFromOwners_11 (by decide) (fun c11 => ?_) (fun c11 => ?_)
      · refine aw_iload_n d_Night_farFromOwners_55 rfl ?_
        refine aw_ireturn d_Night_farFromOwners_56 rfl rfl ?_
        exact ⟨rfl, rfl, rfl⟩
      · exact absurd (Int32.le_refl _) c11
    | succ k ih =>
      intro j hj 
      refine aw_iload d_Night_farFromOwners_5 rfl ?_
      refine aw_aload_n d_Night_farFromOwners_7 rfl ?_
      refine aw_get (k := 0) d_Night_farFromOwners_8 cl_Night k_Night_55 (by decide) n0 rfl ?_
      refine aw_icmp_ge (tgt := 55) d_Night_farFromOwners_11 (by decide) (fun c11 => ?_) (fun c11 => ?_)
      · exact absurd c11 (nI_ge (by omega) (by omega))
      · refine aw_iload_n d_Night_farFromOwners_14 rfl ?_
        refine aw_iload d_Night_farFromOwners_15 rfl ?_
        refine aw_s0i d_Night_farFromOwners_17 k_Night_85 ok_Rows_at rfl ⟨rfl, rfl⟩ (c_at ht.lt8 (show j < 6 by omega)) rfl rfl (Nat.le_of_ble_eq_true rfl) ?_
        refine aw_istore (L' := [some (.ref 2), some (.int (nI (pk t))), some (.int (nI s)), some (.int (nI (ffo N t s (j)))), some (.int (nI (j))), some (.int (nI (t j)))]) d_Night_farFromOwners_20 ⟨by decide, rfl⟩ rfl ?_
        refine aw_iload d_Night_farFromOwners_22 rfl ?_
        refine aw_iload d_Night_farFromOwners_24 rfl ?_
        refine aw_icmp_eq (tgt := 49) d_Night_farFromOwners_26 (by decide) (fun c26 => ?_) (fun c26 => ?_)
        · refine aw_iinc (v := nI ((j) + 1)) (L' := [some (.ref 2), some (.int (nI (pk t))), some (.int (nI s)), some (.int (nI (ffo N t s (j)))), some (.int (nI ((j) + 1))), some (.int (nI (t j)))]) d_Night_farFromOwners_49 rfl (nI_1 _) ⟨by decide, rfl⟩ rfl ?_
          refine aw_goto (tgt := 5) d_Night_farFromOwners_52 (by decide) ?_
          first
            | (have e : ffo N t s (j + 1) = ffo N t s j + fr N j (t j) := by
                 unfold ffo; rw [fb_sm_succ, if_pos ⟨fun q => c26 (by rw [q]), b_nz.mp c35⟩]
               rw [show v48 = nI (ffo N t s (j + 1)) by rw [e, ev48, nI_add]]
               exact aw_drop 5 (ih (j + 1) (by omega)))
            | (have e : ffo N t s (j + 1) = ffo N t s j := by
                 unfold ffo; rw [fb_sm_succ, if_neg (fun q => b_z.mp c35 q.2)]; rfl
               rw [← e]
               exact aw_drop 5 (ih (j + 1) (by omega)))
            | (have e : ffo N t s (j + 1) = ffo N t s j := by
                 unfold ffo; rw [fb_sm_succ, if_neg (fun q => q.1 ((nI_eq (Nat.lt_trans (ht.1 j (by omega)) (by decide)) (by omega)).mp c26))]; rfl
               rw [← e]
               exact aw_drop 5 (ih (j + 1) (by omega)))
        · refine aw_iload_n d_Night_farFromOwners_29 rfl ?_
          refine aw_iload d_Night_farFromOwners_30 rfl ?_
          refine aw_ishr d_Night_farFromOwners_32 ?_
          refine aw_iconst (v := nI 1) d_Night_farFromOwners_33 (by decide) ?_
          refine aw_iand d_Night_farFromOwners_34 ?_
          rw [b_at hs (Nat.lt_trans (ht.1 j (by omega)) (by decide))]
          refine aw_if_eq (tgt := 49) d_Night_farFromOwners_35 (by decide) (fun c35 => ?_) (fun c35 => ?_)
          · refine aw_iinc (v := nI ((j) + 1)) (L' := [some (.ref 2), some (.int (nI (pk t))), some (.int (nI s)), some (.int (nI (ffo N t s (j)))), some (.int (nI ((j) + 1))), some (.int (nI (t j)))]) d_Night_farFromOwners_49 rfl (nI_1 _) ⟨by decide, rfl⟩ rfl ?_
            refine aw_goto (tgt := 5) d_Night_farFromOwners_52 (by decide) ?_
            first
              | (have e : ffo N t s (j + 1) = ffo N t s j + fr N j (t j) := by
                   unfold ffo; rw [fb_sm_succ, if_pos ⟨fun q => c26 (by rw [q]), b_nz.mp c35⟩]
                 rw [show v48 = nI (ffo N t s (j + 1)) by rw [e, ev48, nI_add]]
                 exact aw_drop 5 (ih (j + 1) (by omega)))
              | (have e : ffo N t s (j + 1) = ffo N t s j := by
                   unfold ffo; rw [fb_sm_succ, if_neg (fun q => b_z.mp c35 q.2)]; rfl
                 rw [← e]
                 exact aw_drop 5 (ih (j + 1) (by omega)))
              | (have e : ffo N t s (j + 1) = ffo N t s j := by
                   unfold ffo; rw [fb_sm_succ, if_neg (fun q => q.1 ((nI_eq (Nat.lt_trans (ht.1 j (by omega)) (by decide)) (by omega)).mp c26))]; rfl
                 rw [← e]
                 exact aw_drop 5 (ih (j + 1) (by omega)))
          · refine aw_iload_n d_Night_farFromOwners_38 rfl ?_
            refine aw_aload_n d_Night_farFromOwners_39 rfl ?_
            refine aw_iload d_Night_farFromOwners_40 rfl ?_
            refine aw_iload d_Night_farFromOwners_42 rfl ?_
            refine aw_v0i (a := 2) d_Night_farFromOwners_44 k_Night_89 ok_Night_far rfl ⟨rfl, rfl⟩ cl_Night n0 (c_far hX ok (show j < 6 by omega) (ht.1 j (by omega))) rfl rfl (Nat.le_of_ble_eq_true rfl) ?_
            refine aw_iadd d_Night_farFromOwners_47 ?_
            refine aw_topi (fun v48 ev48 => ?_)
            refine aw_istore_n (L' := [some (.ref 2), some (.int (nI (pk t))), some (.int (nI s)), some (.int v48), some (.int (nI (j))), some (.int (nI (t j)))]) d_Night_farFromOwners_48 ⟨by decide, rfl⟩ rfl ?_
            refine aw_iinc (v := nI ((j) + 1)) (L' := [some (.ref 2), some (.int (nI (pk t))), some (.int (nI s)), some (.int v48), some (.int (nI ((j) + 1))), some (.int (nI (t j)))]) d_Night_farFromOwners_49 rfl (nI_1 _) ⟨by decide, rfl⟩ rfl ?_
            refine aw_goto (tgt := 5) d_Night_farFromOwners_52 (by decide) ?_
            first
              | (have e : ffo N t s (j + 1) = ffo N t s j + fr N j (t j) := by
                   unfold ffo; rw [fb_sm_succ, if_pos ⟨fun q => c26 (by rw [q]), b_nz.mp c35⟩]
                 rw [show v48 = nI (ffo N t s (j + 1)) by rw [e, ev48, nI_add]]
                 exact aw_drop 5 (ih (j + 1) (by omega)))
              | (have e : ffo N t s (j + 1) = ffo N t s j := by
                   unfold ffo; rw [fb_sm_succ, if_neg (fun q => b_z.mp c35 q.2)]; rfl
                 rw [← e]
                 exact aw_drop 5 (ih (j + 1) (by omega)))
              | (have e : ffo N t s (j + 1) = ffo N t s j := by
                   unfold ffo; rw [fb_sm_succ, if_neg (fun q => q.1 ((nI_eq (Nat.lt_trans (ht.1 j (by omega)) (by decide)) (by omega)).mp c26))]; rfl
                 rw [← e]
                 exact aw_drop 5 (ih (j + 1) (by omega)))
  refine aw_iconst (v := nI 0) d_Night_farFromOwners_0 (by decide) ?_
  refine aw_istore_n (L' := [some (.ref 2), some (.int (nI (pk t))), some (.int (nI s)), some (.int (nI 0)), none, none]) d_Night_farFromOwners_1 ⟨by decide, rfl⟩ rfl ?_
  refine aw_iconst (v := nI 0) d_Night_farFromOwners_2 (by decide) ?_
  refine aw_istore (L' := [some (.ref 2), some (.int (nI (pk t))), some (.int (nI s)), some (.int (nI 0)), some (.int (nI 0)), none]) d_Night_farFromOwners_3 ⟨by decide, rfl⟩ rfl ?_
  exact loop (N_n N) 0 (by omega)
theorem c_settled {m : Nat} {h : ab_H} {t : Nat → Nat} (ht : Pm t) {s : Nat} (hs : s < 64) : ab_D Y_Rows_settled [.int (nI (pk t)), .int (nI s)] m h (some (.int (nI (pk (stt t s))))) m (h) := by
  refine ab_C.of (L := [some (.int (nI (pk t))), some (.int (nI s)), none, none, none, none, none]) rfl rfl (Nat.le_of_ble_eq_true rfl) (fun l => ?_)
  have hc := cot_lt ht s 6 (by decide)
  have hsc := (cot_pop ht s).symm
  have loop2 : ∀ k j, j + k = 6 → ab_W Y_Rows_settled none l (fun r m2 h2 => r = some (.int (nI (pk (stt t s)))) ∧ m2 = m ∧ h2 = h) 46 [some (.int (nI (pk t))), some (.int (nI s)), some (.int (nI (cot t s 6))), some (.int (nI (stl s (cot t s 6) (j)))), some (.int (nI (pk (stq t s (cot t s 6) (j))))), some (.int (nI (j))), none] [] m (h) (0, 0) := by
    intro k
    induction k with
    | zero =>
      intro j hj 
      have hjn : 6 = j := by omega
      subst hjn
      refine aw_iload d_Rows_settled_46 rfl ?_
      refine aw_bipush (v := nI 6) d_Rows_settled_48 (by decide) ?_
      refine aw_icmp_ge (tgt := 122) d_Rows_settled_50 (by decide) (fun c50 => ?_) (fun c50 => ?_)
      · refine aw_iload d_Rows_settled_122 rfl ?_
        refine aw_ireturn d_Rows_settled_124 rfl rfl ?_
        exact ⟨rfl, rfl, rfl⟩
      · exact absurd (Int32.le_refl _) c50
    | succ k ih =>
      intro j hj 
      refine aw_iload d_Rows_settled_46 rfl ?_
      refine aw_bipush (v := nI 6) d_Rows_settled_48 (by decide) ?_
      refine aw_icmp_ge (tgt := 122) d_Rows_settled_50 (by decide) (fun c50 => ?_) (fun c50 => ?_)
      · exact absurd c50 (nI_ge (by omega) (by omega))
      · refine aw_iload_n d_Rows_settled_53 rfl ?_
        refine aw_iload d_Rows_settled_54 rfl ?_
        refine aw_ishr d_Rows_settled_56 ?_
        refine aw_iconst (v := nI 1) d_Rows_settled_57 (by decide) ?_
        refine aw_iand d_Rows_settled_58 ?_
        rw [b_at (by omega) (by omega)]
        refine aw_if_eq (tgt := 116) d_Rows_settled_59 (by decide) (fun c59 => ?_) (fun c59 => ?_)
        · refine aw_iinc (v := nI ((j) + 1)) (L' := [some (.int (nI (pk t))), some (.int (nI s)), some (.int (nI (cot t s 6))), some (.int (nI (stl s (cot t s 6) (j)))), some (.int (nI (pk (stq t s (cot t s 6) (j))))), some (.int (nI ((j) + 1))), none]) d_Rows_settled_116 rfl (nI_1 _) ⟨by decide, rfl⟩ rfl ?_
          refine aw_goto (tgt := 46) d_Rows_settled_119 (by decide) ?_
          first
            | (rw [stq_n (b_z.mp c59), show stl s (cot t s 6) j = stl s (cot t s 6) (j + 1) from (if_neg (fun z => b_z.mp c59 z.1)).symm]
               exact ih (j + 1) (by omega))
            | (have e1 : sf s (cot t s 6) j = j := if_pos (b_nz.mp c68)
               have e2 : stl s (cot t s 6) (j + 1) = stl s (cot t s 6) j := if_neg (fun z => z.2 (b_nz.mp c68))
               have e3 := stq_y (t := t) (c := cot t s 6) (b_nz.mp c59)
               rw [e1] at e3
               rw [e3, ← e2]
               exact aw_drop 6 (ih (j + 1) (by omega)))
            | (have e1 : sf s (cot t s 6) j = tz (stl s (cot t s 6) j) := if_neg (b_z.mp c68)
               have e2 : stl s (cot t s 6) (j + 1) = stl s (cot t s 6) j &&& (stl s (cot t s 6) j - 1) := if_pos ⟨b_nz.mp c59, b_z.mp c68⟩
               have e3 := stq_y (t := t) (c := cot t s 6) (b_nz.mp c59)
               rw [e1] at e3
               have e4 : v115 = nI (stl s (cot t s 6) (j + 1)) := by
                 rw [ev115, e2]
                 have z0 : stl s (cot t s 6) j ≠ 0 := ((sf_t hs hc hsc (show j < 6 by omega) (b_nz.mp c59)).2.2.1).resolve_left (b_z.mp c68)
                 rcases pop_s _ (stl_lt hc j) with q | q
                 · exact absurd q.1 z0
                 · exact q.2.2
               rw [e3, e4]
               exact aw_drop 6 (ih (j + 1) (by omega)))
        · refine aw_iload_n d_Rows_settled_62 rfl ?_
          refine aw_iload d_Rows_settled_63 rfl ?_
          refine aw_ishr d_Rows_settled_65 ?_
          refine aw_iconst (v := nI 1) d_Rows_settled_66 (by decide) ?_
          refine aw_iand d_Rows_settled_67 ?_
          rw [b_at (by omega) (by omega)]
          refine aw_if_eq (tgt := 75) d_Rows_settled_68 (by decide) (fun c68 => ?_) (fun c68 => ?_)
          · refine aw_iconst (v := nI 0) d_Rows_settled_75 (by decide) ?_
            refine aw_istore (L' := [some (.int (nI (pk t))), some (.int (nI s)), some (.int (nI (cot t s 6))), some (.int (nI (stl s (cot t s 6) (j)))), some (.int (nI (pk (stq t s (cot t s 6) (j))))), some (.int (nI (j))), some (.int (nI 0))]) d_Rows_settled_76 ⟨by decide, rfl⟩ rfl ?_
            refine aw_iload d_Rows_settled_78 rfl ?_
            refine aw_iload d_Rows_settled_80 rfl ?_
            refine aw_iload d_Rows_settled_82 rfl ?_
            refine aw_if_eq (tgt := 92) d_Rows_settled_84 (by decide) (fun c84 => ?_) (fun c84 => ?_)
            · refine aw_iload_n d_Rows_settled_92 rfl ?_
              refine aw_s0i d_Rows_settled_93 k_Rows_20 ok_JI_numberOfTrailingZeros rfl ⟨rfl, rfl⟩ (c_ntz _ (stl_lt hc j)) rfl rfl (Nat.le_of_ble_eq_true rfl) ?_
              refine aw_s0i d_Rows_settled_96 k_Rows_12 ok_Rows_with rfl ⟨rfl, rfl⟩ (c_with (v := (tz (stl s (cot t s 6) j))) (stq_8 ht hs hc hsc j) (show j < 6 by omega) (by first | omega | (have := (sf_t hs hc hsc (show j < 6 by omega) (b_nz.mp c59)).1; rw [show sf s (cot t s 6) j = tz (stl s (cot t s 6) j) from if_neg (b_z.mp c68)] at this; omega))) rfl rfl (Nat.le_of_ble_eq_true rfl) ?_
              refine aw_istore (L' := [some (.int (nI (pk t))), some (.int (nI s)), some (.int (nI (cot t s 6))), some (.int (nI (stl s (cot t s 6) (j)))), some (.int (nI (pk (ud (stq t s (cot t s 6) j) j ((tz (stl s (cot t s 6) j))))))), some (.int (nI (j))), some (.int (nI 0))]) d_Rows_settled_99 ⟨by decide, rfl⟩ rfl ?_
              refine aw_iload d_Rows_settled_101 rfl ?_
              refine aw_if_eq (tgt := 110) d_Rows_settled_103 (by decide) (fun c103 => ?_) (fun c103 => ?_)
              · refine aw_iload_n d_Rows_settled_110 rfl ?_
                refine aw_iload_n d_Rows_settled_111 rfl ?_
                refine aw_iconst (v := nI 1) d_Rows_settled_112 (by decide) ?_
                refine aw_isub d_Rows_settled_113 ?_
                refine aw_iand d_Rows_settled_114 ?_
                refine aw_topi (fun v115 ev115 => ?_)
                refine aw_istore_n (L' := [some (.int (nI (pk t))), some (.int (nI s)), some (.int (nI (cot t s 6))), some (.int v115), some (.int (nI (pk (ud (stq t s (cot t s 6) j) j ((tz (stl s (cot t s 6) j))))))), some (.int (nI (j))), some (.int (nI 0))]) d_Rows_settled_115 ⟨by decide, rfl⟩ rfl ?_
                refine aw_iinc (v := nI ((j) + 1)) (L' := [some (.int (nI (pk t))), some (.int (nI s)), some (.int (nI (cot t s 6))), some (.int v115), some (.int (nI (pk (ud (stq t s (cot t s 6) j) j ((tz (stl s (cot t s 6) j))))))), some (.int (nI ((j) + 1))), some (.int (nI 0))]) d_Rows_settled_116 rfl (nI_1 _) ⟨by decide, rfl⟩ rfl ?_
                refine aw_goto (tgt := 46) d_Rows_settled_119 (by decide) ?_
                first
                  | (rw [stq_n (b_z.mp c59), show stl s (cot t s 6) j = stl s (cot t s 6) (j + 1) from (if_neg (fun z => b_z.mp c59 z.1)).symm]
                     exact ih (j + 1) (by omega))
                  | (have e1 : sf s (cot t s 6) j = j := if_pos (b_nz.mp c68)
                     have e2 : stl s (cot t s 6) (j + 1) = stl s (cot t s 6) j := if_neg (fun z => z.2 (b_nz.mp c68))
                     have e3 := stq_y (t := t) (c := cot t s 6) (b_nz.mp c59)
                     rw [e1] at e3
                     rw [e3, ← e2]
                     exact aw_drop 6 (ih (j + 1) (by omega)))
                  | (have e1 : sf s (cot t s 6) j = tz (stl s (cot t s 6) j) := if_neg (b_z.mp c68)
                     have e2 : stl s (cot t s 6) (j + 1) = stl s (cot t s 6) j &&& (stl s (cot t s 6) j - 1) := if_pos ⟨b_nz.mp c59, b_z.mp c68⟩
                     have e3 := stq_y (t := t) (c := cot t s 6) (b_nz.mp c59)
                     rw [e1] at e3
                     have e4 : v115 = nI (stl s (cot t s 6) (j + 1)) := by
                       rw [ev115, e2]
                       have z0 : stl s (cot t s 6) j ≠ 0 := ((sf_t hs hc hsc (show j < 6 by omega) (b_nz.mp c59)).2.2.1).resolve_left (b_z.mp c68)
                       rcases pop_s _ (stl_lt hc j) with q | q
                       · exact absurd q.1 z0
                       · exact q.2.2
                     rw [e3, e4]
                     exact aw_drop 6 (ih (j + 1) (by omega)))
              · first | exact absurd c103 (by decide) | exact absurd (by decide) c103
            · first | exact absurd c84 (by decide) | exact absurd (by decide) c84
          · refine aw_iconst (v := nI 1) d_Rows_settled_71 (by decide) ?_
            refine aw_goto (tgt := 76) d_Rows_settled_72 (by decide) ?_
            refine aw_istore (L' := [some (.int (nI (pk t))), some (.int (nI s)), some (.int (nI (cot t s 6))), some (.int (nI (stl s (cot t s 6) (j)))), some (.int (nI (pk (stq t s (cot t s 6) (j))))), some (.int (nI (j))), some (.int (nI 1))]) d_Rows_settled_76 ⟨by decide, rfl⟩ rfl ?_
            refine aw_iload d_Rows_settled_78 rfl ?_
            refine aw_iload d_Rows_settled_80 rfl ?_
            refine aw_iload d_Rows_settled_82 rfl ?_
            refine aw_if_eq (tgt := 92) d_Rows_settled_84 (by decide) (fun c84 => ?_) (fun c84 => ?_)
            · first | exact absurd c84 (by decide) | exact absurd (by decide) c84
            · refine aw_iload d_Rows_settled_87 rfl ?_
              refine aw_goto (tgt := 96) d_Rows_settled_89 (by decide) ?_
              refine aw_s0i d_Rows_settled_96 k_Rows_12 ok_Rows_with rfl ⟨rfl, rfl⟩ (c_with (v := (j)) (stq_8 ht hs hc hsc j) (show j < 6 by omega) (by first | omega | (have := (sf_t hs hc hsc (show j < 6 by omega) (b_nz.mp c59)).1; rw [show sf s (cot t s 6) j = tz (stl s (cot t s 6) j) from if_neg (b_z.mp c68)] at this; omega))) rfl rfl (Nat.le_of_ble_eq_true rfl) ?_
              refine aw_istore (L' := [some (.int (nI (pk t))), some (.int (nI s)), some (.int (nI (cot t s 6))), some (.int (nI (stl s (cot t s 6) (j)))), some (.int (nI (pk (ud (stq t s (cot t s 6) j) j ((j)))))), some (.int (nI (j))), some (.int (nI 1))]) d_Rows_settled_99 ⟨by decide, rfl⟩ rfl ?_
              refine aw_iload d_Rows_settled_101 rfl ?_
              refine aw_if_eq (tgt := 110) d_Rows_settled_103 (by decide) (fun c103 => ?_) (fun c103 => ?_)
              · first | exact absurd c103 (by decide) | exact absurd (by decide) c103
              · refine aw_iload_n d_Rows_settled_106 rfl ?_
                refine aw_goto (tgt := 115) d_Rows_settled_107 (by decide) ?_
                refine aw_istore_n (L' := [some (.int (nI (pk t))), some (.int (nI s)), some (.int (nI (cot t s 6))), some (.int (nI (stl s (cot t s 6) (j)))), some (.int (nI (pk (ud (stq t s (cot t s 6) j) j ((j)))))), some (.int (nI (j))), some (.int (nI 1))]) d_Rows_settled_115 ⟨by decide, rfl⟩ rfl ?_
                refine aw_iinc (v := nI ((j) + 1)) (L' := [some (.int (nI (pk t))), some (.int (nI s)), some (.int (nI (cot t s 6))), some (.int (nI (stl s (cot t s 6) (j)))), some (.int (nI (pk (ud (stq t s (cot t s 6) j) j ((j)))))), some (.int (nI ((j) + 1))), some (.int (nI 1))]) d_Rows_settled_116 rfl (nI_1 _) ⟨by decide, rfl⟩ rfl ?_
                refine aw_goto (tgt := 46) d_Rows_settled_119 (by decide) ?_
                first
                  | (rw [stq_n (b_z.mp c59), show stl s (cot t s 6) j = stl s (cot t s 6) (j + 1) from (if_neg (fun z => b_z.mp c59 z.1)).symm]
                     exact ih (j + 1) (by omega))
                  | (have e1 : sf s (cot t s 6) j = j := if_pos (b_nz.mp c68)
                     have e2 : stl s (cot t s 6) (j + 1) = stl s (cot t s 6) j := if_neg (fun z => z.2 (b_nz.mp c68))
                     have e3 := stq_y (t := t) (c := cot t s 6) (b_nz.mp c59)
                     rw [e1] at e3
                     rw [e3, ← e2]
                     exact aw_drop 6 (ih (j + 1) (by omega)))
                  | (have e1 : sf s (cot t s 6) j = tz (stl s (cot t s 6) j) := if_neg (b_z.mp c68)
                     have e2 : stl s (cot t s 6) (j + 1) = stl s (cot t s 6) j &&& (stl s (cot t s 6) j - 1) := if_pos ⟨b_nz.mp c59, b_z.mp c68⟩
                     have e3 := stq_y (t := t) (c := cot t s 6) (b_nz.mp c59)
                     rw [e1] at e3
                     have e4 : v115 = nI (stl s (cot t s 6) (j + 1)) := by
                       rw [ev115, e2]
                       have z0 : stl s (cot t s 6) j ≠ 0 := ((sf_t hs hc hsc (show j < 6 by omega) (b_nz.mp c59)).2.2.1).resolve_left (b_z.mp c68)
                       rcases pop_s _ (stl_lt hc j) with q | q
                       · exact absurd q.1 z0
                       · exact q.2.2
                     rw [e3, e4]
                     exact aw_drop 6 (ih (j + 1) (by omega)))
  have loop1 : ∀ k j, j + k = 6 → ab_W Y_Rows_settled none l (fun r m2 h2 => r = some (.int (nI (pk (stt t s)))) ∧ m2 = m ∧ h2 = h) 4 [some (.int (nI (pk t))), some (.int (nI s)), some (.int (nI (cot t s (j)))), some (.int (nI (j))), none, none, none] [] m (h) (0, 0) := by
    intro k
    induction k with
    | zero =>
      intro j hj 
      have hjn : 6 = j := by omega
      subst hjn
      refine aw_iload_n d_Rows_settled_4 rfl ?_
      refine aw_bipush (v := nI 6) d_Rows_settled_5 (by decide) ?_
      refine aw_icmp_ge (tgt := 34) d_Rows_settled_7 (by decide) (fun c7 => ?_) (fun c7 => ?_)
      · refine aw_iload_n d_Rows_settled_34 rfl ?_
        refine aw_iload_n d_Rows_settled_35 rfl ?_
        refine aw_iconst (v := (-1)) d_Rows_settled_36 (by decide) ?_
        refine aw_ixor d_Rows_settled_37 ?_
        refine aw_iand d_Rows_settled_38 ?_
        rw [b_andn _ hc _ hs]
        refine aw_istore_n (L' := [some (.int (nI (pk t))), some (.int (nI s)), some (.int (nI (cot t s (6)))), some (.int (nI (stl s (cot t s 6) 0))), none, none, none]) d_Rows_settled_39 ⟨by decide, rfl⟩ rfl ?_
        refine aw_iload_n d_Rows_settled_40 rfl ?_
        refine aw_istore (L' := [some (.int (nI (pk t))), some (.int (nI s)), some (.int (nI (cot t s (6)))), some (.int (nI (stl s (cot t s 6) 0))), some (.int (nI (pk t))), none, none]) d_Rows_settled_41 ⟨by decide, rfl⟩ rfl ?_
        refine aw_iconst (v := nI 0) d_Rows_settled_43 (by decide) ?_
        refine aw_istore (L' := [some (.int (nI (pk t))), some (.int (nI s)), some (.int (nI (cot t s (6)))), some (.int (nI (stl s (cot t s 6) 0))), some (.int (nI (pk t))), some (.int (nI 0)), none]) d_Rows_settled_44 ⟨by decide, rfl⟩ rfl ?_
        have e := loop2 6 0 rfl
        rw [stq_0] at e
        exact e
      · exact absurd (Int32.le_refl _) c7
    | succ k ih =>
      intro j hj 
      refine aw_iload_n d_Rows_settled_4 rfl ?_
      refine aw_bipush (v := nI 6) d_Rows_settled_5 (by decide) ?_
      refine aw_icmp_ge (tgt := 34) d_Rows_settled_7 (by decide) (fun c7 => ?_) (fun c7 => ?_)
      · exact absurd c7 (nI_ge (by omega) (by omega))
      · refine aw_iload_n d_Rows_settled_10 rfl ?_
        refine aw_iload_n d_Rows_settled_11 rfl ?_
        refine aw_ishr d_Rows_settled_12 ?_
        refine aw_iconst (v := nI 1) d_Rows_settled_13 (by decide) ?_
        refine aw_iand d_Rows_settled_14 ?_
        rw [b_at (by omega) (by omega)]
        refine aw_if_eq (tgt := 28) d_Rows_settled_15 (by decide) (fun c15 => ?_) (fun c15 => ?_)
        · refine aw_iinc (v := nI ((j) + 1)) (L' := [some (.int (nI (pk t))), some (.int (nI s)), some (.int (nI (cot t s (j)))), some (.int (nI ((j) + 1))), none, none, none]) d_Rows_settled_28 rfl (nI_1 _) ⟨by decide, rfl⟩ rfl ?_
          refine aw_goto (tgt := 4) d_Rows_settled_31 (by decide) ?_
          first
            | (rw [show v27 = nI (cot t s (j + 1)) by rw [ev27, fa_or]; exact congrArg nI (if_pos (b_nz.mp c15)).symm]
               exact ih (j + 1) (by omega))
            | (rw [show cot t s j = cot t s (j + 1) from (if_neg (b_z.mp c15)).symm]
               exact ih (j + 1) (by omega))
        · refine aw_iload_n d_Rows_settled_18 rfl ?_
          refine aw_iconst (v := nI 1) d_Rows_settled_19 (by decide) ?_
          refine aw_iload_n d_Rows_settled_20 rfl ?_
          refine aw_iload_n d_Rows_settled_21 rfl ?_
          refine aw_s0i d_Rows_settled_22 k_Rows_16 ok_Rows_at rfl ⟨rfl, rfl⟩ (c_at ht.lt8 (show j < 6 by omega)) rfl rfl (Nat.le_of_ble_eq_true rfl) ?_
          refine aw_ishl d_Rows_settled_25 ?_
          rw [b_one (Nat.lt_trans (ht.1 j (by omega)) (by decide))]
          refine aw_ior d_Rows_settled_26 ?_
          refine aw_topi (fun v27 ev27 => ?_)
          refine aw_istore_n (L' := [some (.int (nI (pk t))), some (.int (nI s)), some (.int v27), some (.int (nI (j))), none, none, none]) d_Rows_settled_27 ⟨by decide, rfl⟩ rfl ?_
          refine aw_iinc (v := nI ((j) + 1)) (L' := [some (.int (nI (pk t))), some (.int (nI s)), some (.int v27), some (.int (nI ((j) + 1))), none, none, none]) d_Rows_settled_28 rfl (nI_1 _) ⟨by decide, rfl⟩ rfl ?_
          refine aw_goto (tgt := 4) d_Rows_settled_31 (by decide) ?_
          first
            | (rw [show v27 = nI (cot t s (j + 1)) by rw [ev27, fa_or]; exact congrArg nI (if_pos (b_nz.mp c15)).symm]
               exact ih (j + 1) (by omega))
            | (rw [show cot t s j = cot t s (j + 1) from (if_neg (b_z.mp c15)).symm]
               exact ih (j + 1) (by omega))
  refine aw_iconst (v := nI 0) d_Rows_settled_0 (by decide) ?_
  refine aw_istore_n (L' := [some (.int (nI (pk t))), some (.int (nI s)), some (.int (nI 0)), none, none, none, none]) d_Rows_settled_1 ⟨by decide, rfl⟩ rfl ?_
  refine aw_iconst (v := nI 0) d_Rows_settled_2 (by decide) ?_
  refine aw_istore_n (L' := [some (.int (nI (pk t))), some (.int (nI s)), some (.int (nI 0)), some (.int (nI 0)), none, none, none]) d_Rows_settled_3 ⟨by decide, rfl⟩ rfl ?_
  exact loop1 6 0 rfl
