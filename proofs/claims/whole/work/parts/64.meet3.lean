def rgb (t : Nat → Nat) : Nat → Nat → Nat → Nat
  | 0, _, acc => acc
  | k + 1, q, acc => rgb t k (t q) (acc ||| 2 ^ q)
theorem rgb_all : pl6.all (fun t => (List.range 6).all (fun a => rgb t (pop (rg t a)) a 0 == rg t a && (List.range 6).all (fun p => decide (rg t a / 2 ^ t p % 2 = 1) == decide (rg t a / 2 ^ p % 2 = 1)))) = true := by decide +kernel
theorem rgb_t {t : Nat → Nat} (ht : Pm t) {a : Nat} (ha : a < 6) : rgb t (pop (rg t a)) a 0 = rg t a ∧ ∀ p, p < 6 → (rg t a / 2 ^ t p % 2 = 1 ↔ rg t a / 2 ^ p % 2 = 1) := by
  have h := List.all_eq_true.mp (ht.all rgb_all) a (List.mem_range.mpr ha)
  simp only [Bool.and_eq_true, beq_iff_eq, List.all_eq_true, List.mem_range] at h
  refine ⟨h.1, fun p hp => ?_⟩
  have := h.2 p hp
  simpa [decide_eq_decide] using this
/-- of those of a set, how far what each has is from its owner -/
def ro (N : NS) (t : Nat → Nat) (s : Nat) (n : Nat) : Nat := fb_sm (fun p => if s / 2 ^ p % 2 = 1 then fr N p (t p) else 0) n
theorem ro_ffo {N : NS} {t : Nat → Nat} {s : Nat} : ∀ {n : Nat}, (∀ p, p < n → (s / 2 ^ t p % 2 = 1 ↔ s / 2 ^ p % 2 = 1)) → ro N t s n = ffo N t s n := by
  intro n h
  apply fb_sm_cong
  intro k hk
  have hb := h k hk
  show (if s / 2 ^ k % 2 = 1 then fr N k (t k) else 0) = if ¬ t k = k ∧ s / 2 ^ t k % 2 = 1 then fr N k (t k) else 0
  by_cases e : t k = k
  · rw [e, fr_self]
    split <;> split <;> rfl
  · by_cases q : s / 2 ^ k % 2 = 1
    · rw [if_pos q, if_pos ⟨e, hb.mpr q⟩]
    · rw [if_neg q, if_neg (fun z => q (hb.mp z.2))]
theorem c_away {m : Nat} {h : ab_H} {a b : Nat} (ha : a < 2 ^ 31) (hb : b < 2 ^ 31) : ab_D Y_M_away [.int (nI a), .int (nI b)] m h (some (.int (nI (ad a b)))) m (h) := by
  refine ab_C.of (L := [some (.int (nI a)), some (.int (nI b))]) rfl rfl (Nat.le_of_ble_eq_true rfl) (fun l => ?_)
  refine aw_iload_n d_M_away_0 rfl ?_
  refine aw_iload_n d_M_away_1 rfl ?_
  refine aw_icmp_ge (tgt := 11) d_M_away_2 (by decide) (fun c2 => ?_) (fun c2 => ?_)
  · refine aw_iload_n d_M_away_11 rfl ?_
    refine aw_iload_n d_M_away_12 rfl ?_
    refine aw_isub d_M_away_13 ?_
    refine aw_ireturn d_M_away_14 rfl rfl ?_
    refine ⟨congrArg (fun z => some (Value.int z)) ?_, rfl, rfl⟩
    unfold ad
    first
      | (have q := (nI_leI hb ha).mp c2
         rw [if_neg (by omega), pk_sub q])
      | (have q := Nat.not_le.mp (fun q => c2 (nI_le q ha))
         rw [if_pos q, pk_sub (by omega)])
  · refine aw_iload_n d_M_away_5 rfl ?_
    refine aw_iload_n d_M_away_6 rfl ?_
    refine aw_isub d_M_away_7 ?_
    refine aw_goto (tgt := 14) d_M_away_8 (by decide) ?_
    refine aw_ireturn d_M_away_14 rfl rfl ?_
    refine ⟨congrArg (fun z => some (Value.int z)) ?_, rfl, rfl⟩
    unfold ad
    first
      | (have q := (nI_leI hb ha).mp c2
         rw [if_neg (by omega), pk_sub q])
      | (have q := Nat.not_le.mp (fun q => c2 (nI_le q ha))
         rw [if_pos q, pk_sub (by omega)])
theorem c_Mfar {m : Nat} {h : ab_H} {N : NS} {me mi tab ve la : Int32} {tl : Nat} {at_ wr : Int32} {fe : Nat} {kp : Bool} (hM : h 56 = oM (N_n N) (N_ns N) (N_ra N) (N_se N) me mi tab ve la tl at_ wr fe kp) (hP : PMn h N) (ok : N_ok N) {a b : Nat} (hpa : a < 6) (hpb : b < 6) : ab_D Y_M_far [.ref 56, .int (nI a), .int (nI b)] m h (some (.int (nI (fr N a b)))) m (h) := by
  refine ab_C.of (L := [some (.ref 56), some (.int (nI a)), some (.int (nI b))]) rfl rfl (Nat.le_of_ble_eq_true rfl) (fun l => ?_)
  obtain ⟨⟨gx, hx, ax⟩, ⟨gy, hy, ay⟩, ⟨gm, hm, am⟩, ⟨gh, hh, ah⟩, ⟨gl, hl, al⟩, ⟨gw, hw, aw⟩, ⟨ga, ha0, aa⟩, ⟨gi, hi, ai⟩, ⟨gj, hj0, aj⟩, ⟨gf, hf0, af⟩⟩ := id hP
  have hn6 : N_n N ≤ 6 := ok.1
  have hns : N_ns N ≤ 4 := ok.2.2.2.2.2.2.2.2.1
  have hw6 := ok.w6
  have aw : ∀ k, k < N_n N → gw k = nI (N_w N / 2 ^ k % 2) := aw
  have bx := ok.2.2.2.2.2.1
  have bi := ok.2.2.2.2.2.2.2.2.2.1
  refine aw_aload_n d_M_far_0 rfl ?_
  refine aw_get (k := 1) d_M_far_1 cl_Model k_M_7 (by decide) hM rfl ?_
  refine aw_iload_n d_M_far_4 rfl ?_
  refine aw_ialoadN d_M_far_5 hx (by omega) (by decide) ?_
  refine aw_aload_n d_M_far_6 rfl ?_
  refine aw_get (k := 1) d_M_far_7 cl_Model k_M_7 (by decide) hM rfl ?_
  refine aw_iload_n d_M_far_10 rfl ?_
  refine aw_ialoadN d_M_far_11 hx (by omega) (by decide) ?_
  rw [ax a hpa, ax b hpb]
  refine aw_s0i d_M_far_12 k_M_136 ok_M_away rfl ⟨rfl, rfl⟩ (c_away (a := N_x N a) (b := N_x N b) (by have := (bx a hpa).1; omega) (by have := (bx b hpb).1; omega)) rfl rfl (Nat.le_of_ble_eq_true rfl) ?_
  refine aw_aload_n d_M_far_15 rfl ?_
  refine aw_get (k := 2) d_M_far_16 cl_Model k_M_13 (by decide) hM rfl ?_
  refine aw_iload_n d_M_far_19 rfl ?_
  refine aw_ialoadN d_M_far_20 hy (by omega) (by decide) ?_
  refine aw_aload_n d_M_far_21 rfl ?_
  refine aw_get (k := 2) d_M_far_22 cl_Model k_M_13 (by decide) hM rfl ?_
  refine aw_iload_n d_M_far_25 rfl ?_
  refine aw_ialoadN d_M_far_26 hy (by omega) (by decide) ?_
  rw [ay a hpa, ay b hpb]
  refine aw_s0i d_M_far_27 k_M_136 ok_M_away rfl ⟨rfl, rfl⟩ (c_away (a := N_y N a) (b := N_y N b) (by have := (bx a hpa).2.1; omega) (by have := (bx b hpb).2.1; omega)) rfl rfl (Nat.le_of_ble_eq_true rfl) ?_
  refine aw_iadd d_M_far_30 ?_
  refine aw_ireturn d_M_far_31 rfl rfl ?_
  exact ⟨by rw [nI_add]; rfl, rfl, rfl⟩
/-- a set's first bits -/
theorem w_low (w p : Nat) : w % 2 ^ p ||| w / 2 ^ p % 2 * 2 ^ p = w % 2 ^ (p + 1) := by
  have e := Nat.mod_pow_succ (b := 2) (k := p) (x := w)
  rw [e, Nat.or_comm, Nat.mul_comm (w / 2 ^ p % 2)]
  exact (Nat.two_pow_add_eq_or_of_lt (Nat.mod_lt _ (Nat.two_pow_pos p)) _).symm.trans (Nat.add_comm _ _)
theorem c_unwilling {m : Nat} {h : ab_H} {N : NS} {me mi tab ve la : Int32} {tl : Nat} {at_ wr : Int32} {fe : Nat} {kp : Bool} (hM : h 56 = oM (N_n N) (N_ns N) (N_ra N) (N_se N) me mi tab ve la tl at_ wr fe kp) (hP : PMn h N) (ok : N_ok N) : ab_D Y_M_unwilling [.ref 56] m h (some (.int (nI (N_w N)))) m (h) := by
  refine ab_C.of (L := [some (.ref 56), none, none]) rfl rfl (Nat.le_of_ble_eq_true rfl) (fun l => ?_)
  obtain ⟨⟨gx, hx, ax⟩, ⟨gy, hy, ay⟩, ⟨gm, hm, am⟩, ⟨gh, hh, ah⟩, ⟨gl, hl, al⟩, ⟨gw, hw, aw⟩, ⟨ga, ha0, aa⟩, ⟨gi, hi, ai⟩, ⟨gj, hj0, aj⟩, ⟨gf, hf0, af⟩⟩ := id hP
  have hn6 : N_n N ≤ 6 := ok.1
  have hns : N_ns N ≤ 4 := ok.2.2.2.2.2.2.2.2.1
  have hw6 := ok.w6
  have aw : ∀ k, k < N_n N → gw k = nI (N_w N / 2 ^ k % 2) := aw
  have bx := ok.2.2.2.2.2.1
  have bi := ok.2.2.2.2.2.2.2.2.2.1
  have loop : ∀ k j, j + k = N_n N → ab_W Y_M_unwilling none l (fun r m2 h2 => r = some (.int (nI (N_w N))) ∧ m2 = m ∧ h2 = h) 4 [some (.ref 56), some (.int (nI (N_w N % 2 ^ (j)))), some (.int (nI (j)))] [] m (h) (0, 0) := by
    intro k
    induction k with
    | zero =>
      intro j hj 
      have hjn : N_n N = j := by omega
      subst hjn
      refine aw_iload_n d_M_unwilling_4 rfl ?_
      refine aw_aload_n d_M_unwilling_5 rfl ?_
      refine aw_get (k := 0) d_M_unwilling_6 cl_Model k_M_118 (by decide) hM rfl ?_
      refine aw_icmp_ge (tgt := 29) d_M_unwilling_9 (by decide) (fun c9 => ?_) (fun c9 => ?_)
      · refine aw_iload_n d_M_unwilling_29 rfl ?_
        refine aw_ireturn d_M_unwilling_30 rfl rfl ?_
        exact ⟨by rw [Nat.mod_eq_of_lt ok.2.2.2.2.1], rfl, rfl⟩
      · exact absurd (Int32.le_refl _) c9
    | succ k ih =>
      intro j hj 
      refine aw_iload_n d_M_unwilling_4 rfl ?_
      refine aw_aload_n d_M_unwilling_5 rfl ?_
      refine aw_get (k := 0) d_M_unwilling_6 cl_Model k_M_118 (by decide) hM rfl ?_
      refine aw_icmp_ge (tgt := 29) d_M_unwilling_9 (by decide) (fun c9 => ?_) (fun c9 => ?_)
      · exact absurd c9 (nI_ge (by omega) (by omega))
      · refine aw_iload_n d_M_unwilling_12 rfl ?_
        refine aw_aload_n d_M_unwilling_13 rfl ?_
        refine aw_get (k := 6) d_M_unwilling_14 cl_Model k_M_25 (by decide) hM rfl ?_
        refine aw_iload_n d_M_unwilling_17 rfl ?_
        refine aw_ialoadN d_M_unwilling_18 hw (by omega) (by decide) ?_
        refine aw_iload_n d_M_unwilling_19 rfl ?_
        refine aw_ishl d_M_unwilling_20 ?_
        rw [aw j (by omega), b_shl (by omega) (by have : 2 ^ j ≤ 2 ^ 6 := Nat.pow_le_pow_right (by decide) (by omega); rcases b_01 (N_w N) j with q | q <;> rw [q] <;> omega)]
        refine aw_ior d_M_unwilling_21 ?_
        refine aw_topi (fun v22 ev22 => ?_)
        refine aw_istore_n (L' := [some (.ref 56), some (.int v22), some (.int (nI (j)))]) d_M_unwilling_22 ⟨by decide, rfl⟩ rfl ?_
        refine aw_iinc (v := nI ((j) + 1)) (L' := [some (.ref 56), some (.int v22), some (.int (nI ((j) + 1)))]) d_M_unwilling_23 rfl (nI_1 _) ⟨by decide, rfl⟩ rfl ?_
        refine aw_goto (tgt := 4) d_M_unwilling_26 (by decide) ?_
        rw [show v22 = nI (N_w N % 2 ^ (j + 1)) by rw [ev22, fa_or, w_low]]
        exact ih (j + 1) (by omega)
  refine aw_iconst (v := nI 0) d_M_unwilling_0 (by decide) ?_
  refine aw_istore_n (L' := [some (.ref 56), some (.int (nI 0)), none]) d_M_unwilling_1 ⟨by decide, rfl⟩ rfl ?_
  refine aw_iconst (v := nI 0) d_M_unwilling_2 (by decide) ?_
  refine aw_istore_n (L' := [some (.ref 56), some (.int (nI 0)), some (.int (nI 0))]) d_M_unwilling_3 ⟨by decide, rfl⟩ rfl ?_
  have lp := loop (N_n N) 0 (by omega)
  rw [Nat.pow_zero, Nat.mod_one] at lp
  exact lp
theorem c_isThere {m : Nat} {h : ab_H} {N : NS} {me mi tab ve la : Int32} {tl : Nat} {at_ wr : Int32} {fe : Nat} {kp : Bool} (hM : h 56 = oM (N_n N) (N_ns N) (N_ra N) (N_se N) me mi tab ve la tl at_ wr fe kp) (hn6 : N_n N ≤ 6) {s : Nat} (hs : s < 2 ^ 31) : ab_D Y_M_isThere [.ref 56, .int (nI s)] m h (some (.int (ab_bl (decide (0 < s ∧ s < 2 ^ N_n N))))) m (h) := by
  refine ab_C.of (L := [some (.ref 56), some (.int (nI s))]) rfl rfl (Nat.le_of_ble_eq_true rfl) (fun l => ?_)
  have h2 : 2 ^ N_n N ≤ 2 ^ 6 := Nat.pow_le_pow_right (by decide) hn6
  refine aw_iload_n d_M_isThere_0 rfl ?_
  refine aw_if_le (tgt := 18) d_M_isThere_1 (by decide) (fun c1 => ?_) (fun c1 => ?_)
  · refine aw_iconst (v := nI 0) d_M_isThere_18 (by decide) ?_
    refine aw_ireturn d_M_isThere_19 rfl (by decide) ?_
    refine ⟨congrArg (fun z => some (Value.int z)) ?_, rfl, rfl⟩
    first
      | (rw [decide_eq_true (show 0 < s ∧ s < 2 ^ N_n N from ⟨Nat.pos_of_ne_zero (fun q => c1 (by rw [q]; decide)), Nat.not_le.mp (fun q => c11 (nI_le q hs))⟩)]; rfl)
      | (rw [decide_eq_false (fun q => nI_nle q.1 hs c1)]; rfl)
      | (rw [decide_eq_false (fun q => absurd ((nI_leI (by omega) hs).mp c11) (by omega))]; rfl)
  · refine aw_iload_n d_M_isThere_4 rfl ?_
    refine aw_iconst (v := nI 1) d_M_isThere_5 (by decide) ?_
    refine aw_aload_n d_M_isThere_6 rfl ?_
    refine aw_get (k := 0) d_M_isThere_7 cl_Model k_M_118 (by decide) hM rfl ?_
    refine aw_ishl d_M_isThere_10 ?_
    rw [b_one (by omega)]
    refine aw_icmp_ge (tgt := 18) d_M_isThere_11 (by decide) (fun c11 => ?_) (fun c11 => ?_)
    · refine aw_iconst (v := nI 0) d_M_isThere_18 (by decide) ?_
      refine aw_ireturn d_M_isThere_19 rfl (by decide) ?_
      refine ⟨congrArg (fun z => some (Value.int z)) ?_, rfl, rfl⟩
      first
        | (rw [decide_eq_true (show 0 < s ∧ s < 2 ^ N_n N from ⟨Nat.pos_of_ne_zero (fun q => c1 (by rw [q]; decide)), Nat.not_le.mp (fun q => c11 (nI_le q hs))⟩)]; rfl)
        | (rw [decide_eq_false (fun q => nI_nle q.1 hs c1)]; rfl)
        | (rw [decide_eq_false (fun q => absurd ((nI_leI (by omega) hs).mp c11) (by omega))]; rfl)
    · refine aw_iconst (v := nI 1) d_M_isThere_14 (by decide) ?_
      refine aw_goto (tgt := 19) d_M_isThere_15 (by decide) ?_
      refine aw_ireturn d_M_isThere_19 rfl (by decide) ?_
      refine ⟨congrArg (fun z => some (Value.int z)) ?_, rfl, rfl⟩
      first
        | (rw [decide_eq_true (show 0 < s ∧ s < 2 ^ N_n N from ⟨Nat.pos_of_ne_zero (fun q => c1 (by rw [q]; decide)), Nat.not_le.mp (fun q => c11 (nI_le q hs))⟩)]; rfl)
        | (rw [decide_eq_false (fun q => nI_nle q.1 hs c1)]; rfl)
        | (rw [decide_eq_false (fun q => absurd ((nI_leI (by omega) hs).mp c11) (by omega))]; rfl)
theorem c_whoMeets {m : Nat} {h : ab_H} {N : NS} {me mi tab ve la : Int32} {tl : Nat} {at_ wr : Int32} {fe : Nat} {kp : Bool} (hM : h 56 = oM (N_n N) (N_ns N) (N_ra N) (N_se N) me mi tab ve la tl at_ wr fe kp) (hP : PMn h N) (ok : N_ok N) {A NN fo : Nat} {g : Nat → Int32} (hA : h A = .inl (NN, g)) (hN : NN < 2 ^ 31) (hr : fo + N_n N ≤ NN) {t : Nat → Nat} (ht : Pm t) (hf : ∀ k, N_n N ≤ k → t k = k) (hg : ∀ k, k < N_n N → g (fo + k) = nI (t k)) {k : Nat} (hk : k < 2 ^ 31) : ab_D Y_M_whoMeets [.ref 56, .ref A, .int (nI fo), .int (nI k)] m h (some (.int (nI (who N t k)))) m (h) := by
  refine ab_C.of (L := [some (.ref 56), some (.ref A), some (.int (nI fo)), some (.int (nI k)), none, none, none, none, none, none]) rfl rfl (Nat.le_of_ble_eq_true rfl) (fun l => ?_)
  obtain ⟨⟨gx, hx, ax⟩, ⟨gy, hy, ay⟩, ⟨gm, hm, am⟩, ⟨gh, hh, ah⟩, ⟨gl, hl, al⟩, ⟨gw, hw, aw⟩, ⟨ga, ha0, aa⟩, ⟨gi, hi, ai⟩, ⟨gj, hj0, aj⟩, ⟨gf, hf0, af⟩⟩ := id hP
  have hn6 : N_n N ≤ 6 := ok.1
  have hns : N_ns N ≤ 4 := ok.2.2.2.2.2.2.2.2.1
  have hw6 := ok.w6
  have aw : ∀ k, k < N_n N → gw k = nI (N_w N / 2 ^ k % 2) := aw
  have bx := ok.2.2.2.2.2.1
  have bi := ok.2.2.2.2.2.2.2.2.2.1
  have hse := ok.2.2.2.2.2.2.2.2.2.2.2.2.2.1
  have h2n : 2 ^ N_n N ≤ 2 ^ 6 := Nat.pow_le_pow_right (by decide) hn6
  refine aw_iload_n d_M_whoMeets_0 rfl ?_
  refine aw_if_ge (tgt := 8) d_M_whoMeets_1 (by decide) (fun c1 => ?_) (fun c1 => ?_)
  · refine aw_iload_n d_M_whoMeets_8 rfl ?_
    refine aw_sipush (v := nI 10000) d_M_whoMeets_9 (by decide) ?_
    refine aw_idiv d_M_whoMeets_12 (by decide) ?_
    rw [dv hk (by decide) (by decide)]
    refine aw_istore (L' := [some (.ref 56), some (.ref A), some (.int (nI fo)), some (.int (nI k)), some (.int (nI (k / 10000))), none, none, none, none, none]) d_M_whoMeets_13 ⟨by decide, rfl⟩ rfl ?_
    refine aw_iload_n d_M_whoMeets_15 rfl ?_
    refine aw_sipush (v := nI 10000) d_M_whoMeets_16 (by decide) ?_
    refine aw_irem d_M_whoMeets_19 (by decide) ?_
    rw [rm hk (by decide) (by decide)]
    refine aw_istore (L' := [some (.ref 56), some (.ref A), some (.int (nI fo)), some (.int (nI k)), some (.int (nI (k / 10000))), some (.int (nI (k % 10000))), none, none, none, none]) d_M_whoMeets_20 ⟨by decide, rfl⟩ rfl ?_
    refine aw_iload d_M_whoMeets_22 rfl ?_
    refine aw_if_ne (tgt := 71) d_M_whoMeets_24 (by decide) (fun c24 => ?_) (fun c24 => ?_)
    · refine aw_iload d_M_whoMeets_71 rfl ?_
      refine aw_iconst (v := nI 1) d_M_whoMeets_73 (by decide) ?_
      refine aw_icmp_ne (tgt := 134) d_M_whoMeets_74 (by decide) (fun c74 => ?_) (fun c74 => ?_)
      · refine aw_iload d_M_whoMeets_134 rfl ?_
        refine aw_iconst (v := nI 2) d_M_whoMeets_136 (by decide) ?_
        refine aw_icmp_ne (tgt := 149) d_M_whoMeets_137 (by decide) (fun c137 => ?_) (fun c137 => ?_)
        · refine aw_iconst (v := nI 0) d_M_whoMeets_149 (by decide) ?_
          refine aw_ireturn d_M_whoMeets_150 rfl rfl ?_
          refine ⟨congrArg (fun z => some (Value.int z)) ?_, rfl, rfl⟩
          have k1 : ¬ k / 10000 = 0 := fun q => c24 (by rw [q]; rfl)
          have k2 : ¬ k / 10000 = 1 := fun q => c74 (by rw [q])
          unfold who whoR
          rw [if_neg k1, if_neg k2]
          first
            | (rw [if_neg (fun q => c137 (by rw [q]))]; done)
            | (rw [if_pos k0, if_neg (fun q => c146 (nI_lt q.1 (by omega)))]; done)
        · have k0 : k / 10000 = 2 := (nI_eq (by omega) (by decide)).mp c137
          refine aw_iload d_M_whoMeets_140 rfl ?_
          refine aw_aload_n d_M_whoMeets_142 rfl ?_
          refine aw_get (k := 0) d_M_whoMeets_143 cl_Model k_M_118 (by decide) hM rfl ?_
          refine aw_icmp_lt (tgt := 151) d_M_whoMeets_146 (by decide) (fun c146 => ?_) (fun c146 => ?_)
          · have hkr : k % 10000 < N_n N := (nI_ltI (by omega) (by omega)).mp c146
            obtain ⟨r1, r2, r3, r4⟩ := rg_t ht (show k % 10000 < 6 by omega)
            obtain ⟨b1, b2⟩ := rgb_t ht (show k % 10000 < 6 by omega)
            have rz := rg_tz ht (show k % 10000 < 6 by omega)
            have rp := pop_le (rg t (k % 10000))
            rw [k0]
            have loop : ∀ kf j q acc, j + kf = pop (rg t (k % 10000)) → q < N_n N → rgb t (pop (rg t (k % 10000)) - j) q acc = rg t (k % 10000) → ab_W Y_M_whoMeets none l (fun r m2 h2 => r = some (.int (nI (who N t k))) ∧ m2 = m ∧ h2 = h) 170 [some (.ref 56), some (.ref A), some (.int (nI fo)), some (.int (nI k)), some (.int (nI 2)), some (.int (nI (k % 10000))), some (.int (nI (10 * tz (rg t (k % 10000)) + pop (rg t (k % 10000))))), some (.int (nI acc)), some (.int (nI q)), some (.int (nI (j)))] [] m (h) (0, 0) := by
              intro kf
              induction kf with
              | zero =>
                intro j q acc hj hq e
                have hjn : pop (rg t (k % 10000)) = j := by omega
                subst hjn
                refine aw_iload d_M_whoMeets_170 rfl ?_
                refine aw_iload d_M_whoMeets_172 rfl ?_
                refine aw_bipush (v := nI 10) d_M_whoMeets_174 (by decide) ?_
                refine aw_irem d_M_whoMeets_176 (by decide) ?_
                rw [ri_r (by omega) (by omega)]
                refine aw_icmp_ge (tgt := 203) d_M_whoMeets_177 (by decide) (fun c177 => ?_) (fun c177 => ?_)
                · refine aw_iload d_M_whoMeets_203 rfl ?_
                  refine aw_bipush (v := nI 10) d_M_whoMeets_205 (by decide) ?_
                  refine aw_idiv d_M_whoMeets_207 (by decide) ?_
                  rw [ri_d (by omega) (by omega)]
                  refine aw_iload d_M_whoMeets_208 rfl ?_
                  refine aw_icmp_ne (tgt := 227) d_M_whoMeets_210 (by decide) (fun c210 => ?_) (fun c210 => ?_)
                  · refine aw_iconst (v := nI 0) d_M_whoMeets_227 (by decide) ?_
                    refine aw_ireturn d_M_whoMeets_228 rfl rfl ?_
                    refine ⟨congrArg (fun z => some (Value.int z)) ?_, rfl, rfl⟩
                    unfold who whoR
                    rw [if_neg (by omega), if_neg (by omega), if_pos k0]
                    rw [Nat.sub_self, rgb] at e
                    first
                      | (rw [if_pos ⟨hkr, (nI_eq (by omega) (by omega)).mp c210, Nat.not_le.mp (fun z => c219 (nI_le z (by decide)))⟩, e]; done)
                      | (rw [if_neg (fun z => c210 (by rw [z.2.1]))]; done)
                      | (rw [if_neg (fun z => absurd ((nI_leI (by omega) (by decide)).mp c219) (by omega))]; done)
                  · refine aw_iload d_M_whoMeets_213 rfl ?_
                    refine aw_bipush (v := nI 10) d_M_whoMeets_215 (by decide) ?_
                    refine aw_irem d_M_whoMeets_217 (by decide) ?_
                    rw [ri_r (by omega) (by omega)]
                    refine aw_iconst (v := nI 1) d_M_whoMeets_218 (by decide) ?_
                    refine aw_icmp_le (tgt := 227) d_M_whoMeets_219 (by decide) (fun c219 => ?_) (fun c219 => ?_)
                    · refine aw_iconst (v := nI 0) d_M_whoMeets_227 (by decide) ?_
                      refine aw_ireturn d_M_whoMeets_228 rfl rfl ?_
                      refine ⟨congrArg (fun z => some (Value.int z)) ?_, rfl, rfl⟩
                      unfold who whoR
                      rw [if_neg (by omega), if_neg (by omega), if_pos k0]
                      rw [Nat.sub_self, rgb] at e
                      first
                        | (rw [if_pos ⟨hkr, (nI_eq (by omega) (by omega)).mp c210, Nat.not_le.mp (fun z => c219 (nI_le z (by decide)))⟩, e]; done)
                        | (rw [if_neg (fun z => c210 (by rw [z.2.1]))]; done)
                        | (rw [if_neg (fun z => absurd ((nI_leI (by omega) (by decide)).mp c219) (by omega))]; done)
                    · refine aw_iload d_M_whoMeets_222 rfl ?_
                      refine aw_goto (tgt := 228) d_M_whoMeets_224 (by decide) ?_
                      refine aw_ireturn d_M_whoMeets_228 rfl rfl ?_
                      refine ⟨congrArg (fun z => some (Value.int z)) ?_, rfl, rfl⟩
                      unfold who whoR
                      rw [if_neg (by omega), if_neg (by omega), if_pos k0]
                      rw [Nat.sub_self, rgb] at e
                      first
                        | (rw [if_pos ⟨hkr, (nI_eq (by omega) (by omega)).mp c210, Nat.not_le.mp (fun z => c219 (nI_le z (by decide)))⟩, e]; done)
                        | (rw [if_neg (fun z => c210 (by rw [z.2.1]))]; done)
                        | (rw [if_neg (fun z => absurd ((nI_leI (by omega) (by decide)).mp c219) (by omega))]; done)
                · exact absurd (Int32.le_refl _) c177
              | succ kf ih =>
                intro j q acc hj hq e
                refine aw_iload d_M_whoMeets_170 rfl ?_
                refine aw_iload d_M_whoMeets_172 rfl ?_
                refine aw_bipush (v := nI 10) d_M_whoMeets_174 (by decide) ?_
                refine aw_irem d_M_whoMeets_176 (by decide) ?_
                rw [ri_r (by omega) (by omega)]
                refine aw_icmp_ge (tgt := 203) d_M_whoMeets_177 (by decide) (fun c177 => ?_) (fun c177 => ?_)
                · exact absurd c177 (nI_ge (by omega) (by omega))
                · refine aw_iload d_M_whoMeets_180 rfl ?_
                  refine aw_iconst (v := nI 1) d_M_whoMeets_182 (by decide) ?_
                  refine aw_iload d_M_whoMeets_183 rfl ?_
                  refine aw_ishl d_M_whoMeets_185 ?_
                  rw [b_one (by omega)]
                  refine aw_ior d_M_whoMeets_186 ?_
                  refine aw_topi (fun v187 ev187 => ?_)
                  refine aw_istore (L' := [some (.ref 56), some (.ref A), some (.int (nI fo)), some (.int (nI k)), some (.int (nI 2)), some (.int (nI (k % 10000))), some (.int (nI (10 * tz (rg t (k % 10000)) + pop (rg t (k % 10000))))), some (.int v187), some (.int (nI q)), some (.int (nI (j)))]) d_M_whoMeets_187 ⟨by decide, rfl⟩ rfl ?_
                  refine aw_iinc (v := nI ((j) + 1)) (L' := [some (.ref 56), some (.ref A), some (.int (nI fo)), some (.int (nI k)), some (.int (nI 2)), some (.int (nI (k % 10000))), some (.int (nI (10 * tz (rg t (k % 10000)) + pop (rg t (k % 10000))))), some (.int v187), some (.int (nI q)), some (.int (nI ((j) + 1)))]) d_M_whoMeets_189 rfl (nI_1 _) ⟨by decide, rfl⟩ rfl ?_
                  refine aw_aload_n d_M_whoMeets_192 rfl ?_
                  refine aw_iload_n d_M_whoMeets_193 rfl ?_
                  refine aw_iload d_M_whoMeets_194 rfl ?_
                  refine aw_iadd d_M_whoMeets_196 ?_
                  rw [nI_add]
                  refine aw_ialoadN d_M_whoMeets_197 hA (by omega) hN ?_
                  refine aw_topi (fun v198 ev198 => ?_)
                  refine aw_istore (L' := [some (.ref 56), some (.ref A), some (.int (nI fo)), some (.int (nI k)), some (.int (nI 2)), some (.int (nI (k % 10000))), some (.int (nI (10 * tz (rg t (k % 10000)) + pop (rg t (k % 10000))))), some (.int v187), some (.int v198), some (.int (nI ((j) + 1)))]) d_M_whoMeets_198 ⟨by decide, rfl⟩ rfl ?_
                  refine aw_goto (tgt := 170) d_M_whoMeets_200 (by decide) ?_
                  rw [ev187, fa_or, ev198, hg q hq]
                  rw [show pop (rg t (k % 10000)) - j = (pop (rg t (k % 10000)) - (j + 1)) + 1 by omega, rgb] at e
                  exact ih (j + 1) (t q) _ (by omega) (ht.in ok.1 hf hq) e
            refine aw_aload_n d_M_whoMeets_151 rfl ?_
            refine aw_iload_n d_M_whoMeets_152 rfl ?_
            refine aw_iload d_M_whoMeets_153 rfl ?_
            refine aw_s0i d_M_whoMeets_155 k_M_150 ok_M_ringOf rfl ⟨rfl, rfl⟩ (c_ringOf hA hN ht hn6 hf hr hg hkr) rfl rfl (Nat.le_of_ble_eq_true rfl) ?_
            refine aw_istore (L' := [some (.ref 56), some (.ref A), some (.int (nI fo)), some (.int (nI k)), some (.int (nI 2)), some (.int (nI (k % 10000))), some (.int (nI (10 * tz (rg t (k % 10000)) + pop (rg t (k % 10000))))), none, none, none]) d_M_whoMeets_158 ⟨by decide, rfl⟩ rfl ?_
            refine aw_iconst (v := nI 0) d_M_whoMeets_160 (by decide) ?_
            refine aw_istore (L' := [some (.ref 56), some (.ref A), some (.int (nI fo)), some (.int (nI k)), some (.int (nI 2)), some (.int (nI (k % 10000))), some (.int (nI (10 * tz (rg t (k % 10000)) + pop (rg t (k % 10000))))), some (.int (nI 0)), none, none]) d_M_whoMeets_161 ⟨by decide, rfl⟩ rfl ?_
            refine aw_iload d_M_whoMeets_163 rfl ?_
            refine aw_istore (L' := [some (.ref 56), some (.ref A), some (.int (nI fo)), some (.int (nI k)), some (.int (nI 2)), some (.int (nI (k % 10000))), some (.int (nI (10 * tz (rg t (k % 10000)) + pop (rg t (k % 10000))))), some (.int (nI 0)), some (.int (nI (k % 10000))), none]) d_M_whoMeets_165 ⟨by decide, rfl⟩ rfl ?_
            refine aw_iconst (v := nI 0) d_M_whoMeets_167 (by decide) ?_
            refine aw_istore (L' := [some (.ref 56), some (.ref A), some (.int (nI fo)), some (.int (nI k)), some (.int (nI 2)), some (.int (nI (k % 10000))), some (.int (nI (10 * tz (rg t (k % 10000)) + pop (rg t (k % 10000))))), some (.int (nI 0)), some (.int (nI (k % 10000))), some (.int (nI 0))]) d_M_whoMeets_168 ⟨by decide, rfl⟩ rfl ?_
            exact loop (pop (rg t (k % 10000))) 0 (k % 10000) 0 (by omega) hkr b1
          · refine aw_iconst (v := nI 0) d_M_whoMeets_149 (by decide) ?_
            refine aw_ireturn d_M_whoMeets_150 rfl rfl ?_
            refine ⟨congrArg (fun z => some (Value.int z)) ?_, rfl, rfl⟩
            have k1 : ¬ k / 10000 = 0 := fun q => c24 (by rw [q]; rfl)
            have k2 : ¬ k / 10000 = 1 := fun q => c74 (by rw [q])
            unfold who whoR
            rw [if_neg k1, if_neg k2]
            first
              | (rw [if_neg (fun q => c137 (by rw [q]))]; done)
              | (rw [if_pos k0, if_neg (fun q => c146 (nI_lt q.1 (by omega)))]; done)
      · have k0 : k / 10000 = 1 := (nI_eq (by omega) (by decide)).mp c74
        refine aw_iload d_M_whoMeets_77 rfl ?_
        refine aw_sipush (v := nI 1000) d_M_whoMeets_79 (by decide) ?_
        refine aw_irem d_M_whoMeets_82 (by decide) ?_
        rw [rm (by omega) (by decide) (by decide)]
        refine aw_istore (L' := [some (.ref 56), some (.ref A), some (.int (nI fo)), some (.int (nI k)), some (.int (nI (k / 10000))), some (.int (nI (k % 10000))), some (.int (nI (k % 10000 % 1000))), none, none, none]) d_M_whoMeets_83 ⟨by decide, rfl⟩ rfl ?_
        refine aw_iload d_M_whoMeets_85 rfl ?_
        refine aw_sipush (v := nI 1000) d_M_whoMeets_87 (by decide) ?_
        refine aw_idiv d_M_whoMeets_90 (by decide) ?_
        rw [dv (by omega) (by decide) (by decide)]
        refine aw_aload_n d_M_whoMeets_91 rfl ?_
        refine aw_get (k := 8) d_M_whoMeets_92 cl_Model k_M_174 (by decide) hM rfl ?_
        refine aw_icmp_ge (tgt := 132) d_M_whoMeets_95 (by decide) (fun c95 => ?_) (fun c95 => ?_)
        · refine aw_iconst (v := nI 0) d_M_whoMeets_132 (by decide) ?_
          refine aw_ireturn d_M_whoMeets_133 rfl rfl ?_
          refine ⟨congrArg (fun z => some (Value.int z)) ?_, rfl, rfl⟩
          unfold who whoI
          rw [if_neg (by omega), if_pos k0]
          first
            | (rw [if_neg (fun q => absurd ((nI_leI (by omega) (by omega)).mp c95) (by omega))]; done)
            | (rw [if_neg (fun q => of_decide_eq_false (ab_bl_0.mp c104) ⟨by have z1 := q.2.2.1; refine Nat.pos_of_ne_zero (fun z => ?_); rw [z] at z1; exact absurd z1 (by decide), q.2.1⟩)]; done)
            | (have c := of_decide_eq_true (ab_bl_1.mp c124)
               rw [i64_toInt, tl2, i64_toInt, nI_toInt (show pop (k % 10000 % 1000) < 2 ^ 31 by omega), nI_toInt (show N_se N < 2 ^ 31 by omega)] at c
               rw [if_pos ⟨Nat.not_le.mp (fun q => c95 (nI_le q (by omega))), q104.2, by omega, by omega⟩]; done)
            | (have c := of_decide_eq_false (ab_bl_0.mp c124)
               rw [i64_toInt, tl2, i64_toInt, nI_toInt (show pop (k % 10000 % 1000) < 2 ^ 31 by omega), nI_toInt (show N_se N < 2 ^ 31 by omega)] at c
               rw [if_neg (fun q => c ⟨by have := q.2.2.1; omega, by have := q.2.2.2; omega⟩)]; done)
        · refine aw_aload_n d_M_whoMeets_98 rfl ?_
          refine aw_iload d_M_whoMeets_99 rfl ?_
          refine aw_v0i (a := 56) d_M_whoMeets_101 k_M_190 ok_M_isThere rfl ⟨rfl, rfl⟩ cl_Model hM (c_isThere hM hn6 (show k % 10000 % 1000 < 2 ^ 31 by omega)) rfl rfl (Nat.le_of_ble_eq_true rfl) ?_
          refine aw_if_eq (tgt := 132) d_M_whoMeets_104 (by decide) (fun c104 => ?_) (fun c104 => ?_)
          · refine aw_iconst (v := nI 0) d_M_whoMeets_132 (by decide) ?_
            refine aw_ireturn d_M_whoMeets_133 rfl rfl ?_
            refine ⟨congrArg (fun z => some (Value.int z)) ?_, rfl, rfl⟩
            unfold who whoI
            rw [if_neg (by omega), if_pos k0]
            first
              | (rw [if_neg (fun q => absurd ((nI_leI (by omega) (by omega)).mp c95) (by omega))]; done)
              | (rw [if_neg (fun q => of_decide_eq_false (ab_bl_0.mp c104) ⟨by have z1 := q.2.2.1; refine Nat.pos_of_ne_zero (fun z => ?_); rw [z] at z1; exact absurd z1 (by decide), q.2.1⟩)]; done)
              | (have c := of_decide_eq_true (ab_bl_1.mp c124)
                 rw [i64_toInt, tl2, i64_toInt, nI_toInt (show pop (k % 10000 % 1000) < 2 ^ 31 by omega), nI_toInt (show N_se N < 2 ^ 31 by omega)] at c
                 rw [if_pos ⟨Nat.not_le.mp (fun q => c95 (nI_le q (by omega))), q104.2, by omega, by omega⟩]; done)
              | (have c := of_decide_eq_false (ab_bl_0.mp c124)
                 rw [i64_toInt, tl2, i64_toInt, nI_toInt (show pop (k % 10000 % 1000) < 2 ^ 31 by omega), nI_toInt (show N_se N < 2 ^ 31 by omega)] at c
                 rw [if_neg (fun q => c ⟨by have := q.2.2.1; omega, by have := q.2.2.2; omega⟩)]; done)
          · have q104 := of_decide_eq_true (ab_bl_1.mp c104)
            have hpl := pop_le (k % 10000 % 1000)
            refine aw_iload d_M_whoMeets_107 rfl ?_
            refine aw_s0i d_M_whoMeets_109 k_M_193 ok_M_size rfl ⟨rfl, rfl⟩ (c_size (show k % 10000 % 1000 < 64 by omega)) rfl rfl (Nat.le_of_ble_eq_true rfl) ?_
            refine aw_i2l d_M_whoMeets_112 ?_
            refine aw_ldc2 (v := lN 2) d_M_whoMeets_113 k_M_177 ?_
            refine aw_aload_n d_M_whoMeets_116 rfl ?_
            refine aw_get (k := 12) d_M_whoMeets_117 cl_Model k_M_41 (by decide) hM rfl ?_
            refine aw_i2l d_M_whoMeets_120 ?_
            refine aw_s0i d_M_whoMeets_121 k_M_121 ok_M_in rfl ⟨rfl, rfl⟩ (c_in ((nI (pop (k % 10000 % 1000))).toInt64) (lN 2) ((nI (N_se N)).toInt64)) rfl rfl (Nat.le_of_ble_eq_true rfl) ?_
            refine aw_if_eq (tgt := 132) d_M_whoMeets_124 (by decide) (fun c124 => ?_) (fun c124 => ?_)
            · refine aw_iconst (v := nI 0) d_M_whoMeets_132 (by decide) ?_
              refine aw_ireturn d_M_whoMeets_133 rfl rfl ?_
              refine ⟨congrArg (fun z => some (Value.int z)) ?_, rfl, rfl⟩
              unfold who whoI
              rw [if_neg (by omega), if_pos k0]
              first
                | (rw [if_neg (fun q => absurd ((nI_leI (by omega) (by omega)).mp c95) (by omega))]; done)
                | (rw [if_neg (fun q => of_decide_eq_false (ab_bl_0.mp c104) ⟨by have z1 := q.2.2.1; refine Nat.pos_of_ne_zero (fun z => ?_); rw [z] at z1; exact absurd z1 (by decide), q.2.1⟩)]; done)
                | (have c := of_decide_eq_true (ab_bl_1.mp c124)
                   rw [i64_toInt, tl2, i64_toInt, nI_toInt (show pop (k % 10000 % 1000) < 2 ^ 31 by omega), nI_toInt (show N_se N < 2 ^ 31 by omega)] at c
                   rw [if_pos ⟨Nat.not_le.mp (fun q => c95 (nI_le q (by omega))), q104.2, by omega, by omega⟩]; done)
                | (have c := of_decide_eq_false (ab_bl_0.mp c124)
                   rw [i64_toInt, tl2, i64_toInt, nI_toInt (show pop (k % 10000 % 1000) < 2 ^ 31 by omega), nI_toInt (show N_se N < 2 ^ 31 by omega)] at c
                   rw [if_neg (fun q => c ⟨by have := q.2.2.1; omega, by have := q.2.2.2; omega⟩)]; done)
            · refine aw_iload d_M_whoMeets_127 rfl ?_
              refine aw_goto (tgt := 133) d_M_whoMeets_129 (by decide) ?_
              refine aw_ireturn d_M_whoMeets_133 rfl rfl ?_
              refine ⟨congrArg (fun z => some (Value.int z)) ?_, rfl, rfl⟩
              unfold who whoI
              rw [if_neg (by omega), if_pos k0]
              first
                | (rw [if_neg (fun q => absurd ((nI_leI (by omega) (by omega)).mp c95) (by omega))]; done)
                | (rw [if_neg (fun q => of_decide_eq_false (ab_bl_0.mp c104) ⟨by have z1 := q.2.2.1; refine Nat.pos_of_ne_zero (fun z => ?_); rw [z] at z1; exact absurd z1 (by decide), q.2.1⟩)]; done)
                | (have c := of_decide_eq_true (ab_bl_1.mp c124)
                   rw [i64_toInt, tl2, i64_toInt, nI_toInt (show pop (k % 10000 % 1000) < 2 ^ 31 by omega), nI_toInt (show N_se N < 2 ^ 31 by omega)] at c
                   rw [if_pos ⟨Nat.not_le.mp (fun q => c95 (nI_le q (by omega))), q104.2, by omega, by omega⟩]; done)
                | (have c := of_decide_eq_false (ab_bl_0.mp c124)
                   rw [i64_toInt, tl2, i64_toInt, nI_toInt (show pop (k % 10000 % 1000) < 2 ^ 31 by omega), nI_toInt (show N_se N < 2 ^ 31 by omega)] at c
                   rw [if_neg (fun q => c ⟨by have := q.2.2.1; omega, by have := q.2.2.2; omega⟩)]; done)
    · have k0 : k / 10000 = 0 := (nI_eq (b := 0) (by omega) (by decide)).mp c24
      refine aw_iload d_M_whoMeets_27 rfl ?_
      refine aw_bipush (v := nI 100) d_M_whoMeets_29 (by decide) ?_
      refine aw_idiv d_M_whoMeets_31 (by decide) ?_
      rw [dv (by omega) (by decide) (by decide)]
      refine aw_istore (L' := [some (.ref 56), some (.ref A), some (.int (nI fo)), some (.int (nI k)), some (.int (nI (k / 10000))), some (.int (nI (k % 10000))), some (.int (nI (k % 10000 / 100))), none, none, none]) d_M_whoMeets_32 ⟨by decide, rfl⟩ rfl ?_
      refine aw_iload d_M_whoMeets_34 rfl ?_
      refine aw_bipush (v := nI 100) d_M_whoMeets_36 (by decide) ?_
      refine aw_irem d_M_whoMeets_38 (by decide) ?_
      rw [rm (by omega) (by decide) (by decide)]
      refine aw_istore (L' := [some (.ref 56), some (.ref A), some (.int (nI fo)), some (.int (nI k)), some (.int (nI (k / 10000))), some (.int (nI (k % 10000))), some (.int (nI (k % 10000 / 100))), some (.int (nI (k % 10000 % 100))), none, none]) d_M_whoMeets_39 ⟨by decide, rfl⟩ rfl ?_
      refine aw_iload d_M_whoMeets_41 rfl ?_
      refine aw_iload d_M_whoMeets_43 rfl ?_
      refine aw_icmp_ge (tgt := 69) d_M_whoMeets_45 (by decide) (fun c45 => ?_) (fun c45 => ?_)
      · refine aw_iconst (v := nI 0) d_M_whoMeets_69 (by decide) ?_
        refine aw_ireturn d_M_whoMeets_70 rfl rfl ?_
        refine ⟨congrArg (fun z => some (Value.int z)) ?_, rfl, rfl⟩
        have k0 : k / 10000 = 0 := (nI_eq (b := 0) (by omega) (by decide)).mp c24
        unfold who whoP
        rw [if_pos k0]
        first
          | (rw [if_pos ⟨q45, q54⟩, fa_or]; done)
          | (rw [if_neg (fun q => absurd ((nI_leI (by omega) (by omega)).mp c45) (by omega))]; done)
          | (rw [if_neg (fun q => absurd ((nI_leI (by omega) (by omega)).mp c54) (by omega))]; done)
      · refine aw_iload d_M_whoMeets_48 rfl ?_
        refine aw_aload_n d_M_whoMeets_50 rfl ?_
        refine aw_get (k := 0) d_M_whoMeets_51 cl_Model k_M_118 (by decide) hM rfl ?_
        refine aw_icmp_ge (tgt := 69) d_M_whoMeets_54 (by decide) (fun c54 => ?_) (fun c54 => ?_)
        · refine aw_iconst (v := nI 0) d_M_whoMeets_69 (by decide) ?_
          refine aw_ireturn d_M_whoMeets_70 rfl rfl ?_
          refine ⟨congrArg (fun z => some (Value.int z)) ?_, rfl, rfl⟩
          have k0 : k / 10000 = 0 := (nI_eq (b := 0) (by omega) (by decide)).mp c24
          unfold who whoP
          rw [if_pos k0]
          first
            | (rw [if_pos ⟨q45, q54⟩, fa_or]; done)
            | (rw [if_neg (fun q => absurd ((nI_leI (by omega) (by omega)).mp c45) (by omega))]; done)
            | (rw [if_neg (fun q => absurd ((nI_leI (by omega) (by omega)).mp c54) (by omega))]; done)
        · have q45 := Nat.not_le.mp (fun q => c45 (nI_le q (by omega)))
          have q54 := Nat.not_le.mp (fun q => c54 (nI_le q (by omega)))
          refine aw_iconst (v := nI 1) d_M_whoMeets_57 (by decide) ?_
          refine aw_iload d_M_whoMeets_58 rfl ?_
          refine aw_ishl d_M_whoMeets_60 ?_
          refine aw_iconst (v := nI 1) d_M_whoMeets_61 (by decide) ?_
          refine aw_iload d_M_whoMeets_62 rfl ?_
          refine aw_ishl d_M_whoMeets_64 ?_
          rw [b_one (by omega), b_one (by omega)]
          refine aw_ior d_M_whoMeets_65 ?_
          refine aw_goto (tgt := 70) d_M_whoMeets_66 (by decide) ?_
          refine aw_ireturn d_M_whoMeets_70 rfl rfl ?_
          refine ⟨congrArg (fun z => some (Value.int z)) ?_, rfl, rfl⟩
          have k0 : k / 10000 = 0 := (nI_eq (b := 0) (by omega) (by decide)).mp c24
          unfold who whoP
          rw [if_pos k0]
          first
            | (rw [if_pos ⟨q45, q54⟩, fa_or]; done)
            | (rw [if_neg (fun q => absurd ((nI_leI (by omega) (by omega)).mp c45) (by omega))]; done)
            | (rw [if_neg (fun q => absurd ((nI_leI (by omega) (by omega)).mp c54) (by omega))]; done)
  · exact absurd (nI_le (a := 0) (Nat.zero_le _) hk) c1
theorem c_whoN {m : Nat} {h : ab_H} {A : Nat} {fo x : Int32} (hx : x.toInt < 0) : ab_D Y_M_whoMeets [.ref 56, .ref A, .int fo, .int x] m h (some (.int (nI 0))) m h := by
  refine ab_C.of (L := [some (.ref 56), some (.ref A), some (.int fo), some (.int x), none, none, none, none, none, none]) rfl rfl (Nat.le_of_ble_eq_true rfl) (fun l => ?_)
  refine aw_iload_n d_M_whoMeets_0 rfl ?_
  refine aw_if_ge (tgt := 8) d_M_whoMeets_1 (by decide) (fun c1 => ?_) (fun c1 => ?_)
  · exact absurd c1 (by rw [fa_le, Int32.toInt_zero]; omega)
  · refine aw_iconst (v := nI 3) d_M_whoMeets_4 (by decide) ?_
    refine aw_goto (tgt := 13) d_M_whoMeets_5 (by decide) ?_
    refine aw_istore (L' := [some (.ref 56), some (.ref A), some (.int fo), some (.int x), some (.int (nI 3)), none, none, none, none, none]) d_M_whoMeets_13 ⟨by decide, rfl⟩ rfl ?_
    refine aw_iload_n d_M_whoMeets_15 rfl ?_
    refine aw_sipush (v := nI 10000) d_M_whoMeets_16 (by decide) ?_
    refine aw_irem d_M_whoMeets_19 (by decide) ?_
    refine aw_topi (fun v20 ev20 => ?_)
    refine aw_istore (L' := [some (.ref 56), some (.ref A), some (.int fo), some (.int x), some (.int (nI 3)), some (.int v20), none, none, none, none]) d_M_whoMeets_20 ⟨by decide, rfl⟩ rfl ?_
    refine aw_iload d_M_whoMeets_22 rfl ?_
    refine aw_if_ne (tgt := 71) d_M_whoMeets_24 (by decide) (fun c24 => ?_) (fun c24 => ?_)
    · refine aw_iload d_M_whoMeets_71 rfl ?_
      refine aw_iconst (v := nI 1) d_M_whoMeets_73 (by decide) ?_
      refine aw_icmp_ne (tgt := 134) d_M_whoMeets_74 (by decide) (fun c74 => ?_) (fun c74 => ?_)
      · refine aw_iload d_M_whoMeets_134 rfl ?_
        refine aw_iconst (v := nI 2) d_M_whoMeets_136 (by decide) ?_
        refine aw_icmp_ne (tgt := 149) d_M_whoMeets_137 (by decide) (fun c137 => ?_) (fun c137 => ?_)
        · refine aw_iconst (v := nI 0) d_M_whoMeets_149 (by decide) ?_
          refine aw_ireturn d_M_whoMeets_150 rfl rfl ?_
          exact ⟨rfl, rfl, rfl⟩
        · first | exact absurd c137 (by decide) | exact absurd (by decide) c137
      · first | exact absurd c74 (by decide) | exact absurd (by decide) c74
    · first | exact absurd c24 (by decide) | exact absurd (by decide) c24
