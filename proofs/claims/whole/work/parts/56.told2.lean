theorem pop_s : ∀ s, s < 64 → (s = 0 ∧ pop s = 0) ∨ (0 < s ∧ pop s = pop (s &&& (s - 1)) + 1 ∧ nI s &&& (nI s - nI 1) = nI (s &&& (s - 1))) := by decide +kernel
theorem tz_in : ∀ s, s < 64 → (s = 0 ∨ (tz s < 6 ∧ s / 2 ^ tz s % 2 = 1 ∧ ∀ k, k < 6 → (tz s ≤ k ∨ ¬ s / 2 ^ k % 2 = 1))) := by decide +kernel
theorem c_size {m : Nat} {h : ab_H} {s : Nat} (hs : s < 64) : ab_D Y_M_size [.int (nI s)] m h (some (.int (nI (pop s)))) m (h) := by
  refine ab_C.of (L := [some (.int (nI s)), none, none]) rfl rfl (Nat.le_of_ble_eq_true rfl) (fun l => ?_)
  have loop : ∀ f r, r ≤ f → r < 64 → pop r ≤ pop s → ab_W Y_M_size none l (fun r m2 h2 => r = some (.int (nI (pop s))) ∧ m2 = m ∧ h2 = h) 4 [some (.int (nI s)), some (.int (nI (pop s - pop r))), some (.int (nI r))] [] m h (0, 0) := by
    intro f
    induction f with
    | zero =>
      intro r hr h64 hp
      have hr0 : r = 0 := by omega
      subst hr0
      refine aw_iload_n d_M_size_4 rfl ?_
      refine aw_if_eq (tgt := 20) d_M_size_5 (by decide) (fun c5 => ?_) (fun c5 => ?_)
      · refine aw_iload_n d_M_size_20 rfl ?_
        refine aw_ireturn d_M_size_21 rfl rfl ?_
        exact ⟨rfl, rfl, rfl⟩
      · exact absurd rfl c5
    | succ f ih =>
      intro r hr h64 hp
      rcases pop_s r h64 with ⟨hr0, -⟩ | ⟨hr0, hq1, hq2⟩
      · subst hr0
        exact ih 0 (by omega) (by omega) (by omega)
      have hlt : r &&& (r - 1) ≤ r - 1 := Nat.and_le_right
      refine aw_iload_n d_M_size_4 rfl ?_
      refine aw_if_eq (tgt := 20) d_M_size_5 (by decide) (fun c5 => ?_) (fun c5 => ?_)
      · exact absurd ((nI_eq (b := 0) (by omega) (by decide)).mp c5) (by omega)
      · refine aw_iinc (v := nI ((pop s - pop r) + 1)) (L' := [some (.int (nI s)), some (.int (nI ((pop s - pop r) + 1))), some (.int (nI r))]) d_M_size_8 rfl (nI_1 _) ⟨by decide, rfl⟩ rfl ?_
        refine aw_iload_n d_M_size_11 rfl ?_
        refine aw_iload_n d_M_size_12 rfl ?_
        refine aw_iconst (v := nI 1) d_M_size_13 (by decide) ?_
        refine aw_isub d_M_size_14 ?_
        refine aw_iand d_M_size_15 ?_
        refine aw_topi (fun v16 ev16 => ?_)
        refine aw_istore_n (L' := [some (.int (nI s)), some (.int (nI ((pop s - pop r) + 1))), some (.int v16)]) d_M_size_16 ⟨by decide, rfl⟩ rfl ?_
        refine aw_goto (tgt := 4) d_M_size_17 (by decide) ?_
        rw [ev16, hq2, show pop s - pop r + 1 = pop s - pop (r &&& (r - 1)) by omega]
        exact ih _ (by omega) (by omega) (by omega)
  refine aw_iconst (v := nI 0) d_M_size_0 (by decide) ?_
  refine aw_istore_n (L' := [some (.int (nI s)), some (.int (nI 0)), none]) d_M_size_1 ⟨by decide, rfl⟩ rfl ?_
  refine aw_iload_n d_M_size_2 rfl ?_
  refine aw_istore_n (L' := [some (.int (nI s)), some (.int (nI 0)), some (.int (nI s))]) d_M_size_3 ⟨by decide, rfl⟩ rfl ?_
  have e := loop s s (Nat.le_refl _) hs (Nat.le_refl _)
  rw [Nat.sub_self] at e
  exact e
theorem c_lowest {m : Nat} {h : ab_H} {s : Nat} (hs : s < 64) (h0 : s ≠ 0) : ab_D Y_M_lowest [.int (nI s)] m h (some (.int (nI (tz s)))) m (h) := by
  refine ab_C.of (L := [some (.int (nI s)), none]) rfl rfl (Nat.le_of_ble_eq_true rfl) (fun l => ?_)
  obtain ⟨z1, z2, z3⟩ := (tz_in s hs).resolve_left h0
  have loop : ∀ k j, j + k = tz s → ab_W Y_M_lowest none l (fun r m2 h2 => r = some (.int (nI (tz s))) ∧ m2 = m ∧ h2 = h) 2 [some (.int (nI s)), some (.int (nI j))] [] m h (0, 0) := by
    intro k
    induction k with
    | zero =>
      intro j hj
      have hj2 : j = tz s := by omega
      subst hj2
      refine aw_iload_n d_M_lowest_2 rfl ?_
      refine aw_bipush (v := nI 31) d_M_lowest_3 (by decide) ?_
      refine aw_icmp_ge (tgt := 22) d_M_lowest_5 (by decide) (fun c5 => ?_) (fun c5 => ?_)
      · refine aw_iload_n d_M_lowest_22 rfl ?_
        refine aw_ireturn d_M_lowest_23 rfl rfl ?_
        exact ⟨rfl, rfl, rfl⟩
      · refine aw_iload_n d_M_lowest_8 rfl ?_
        refine aw_iload_n d_M_lowest_9 rfl ?_
        refine aw_ishr d_M_lowest_10 ?_
        refine aw_iconst (v := nI 1) d_M_lowest_11 (by decide) ?_
        refine aw_iand d_M_lowest_12 ?_
        rw [b_at (by omega) (by omega)]
        refine aw_if_ne (tgt := 22) d_M_lowest_13 (by decide) (fun c13 => ?_) (fun c13 => ?_)
        · refine aw_iload_n d_M_lowest_22 rfl ?_
          refine aw_ireturn d_M_lowest_23 rfl rfl ?_
          exact ⟨rfl, rfl, rfl⟩
        · exact absurd z2 (b_z.mp c13)
    | succ k ih =>
      intro j hj
      refine aw_iload_n d_M_lowest_2 rfl ?_
      refine aw_bipush (v := nI 31) d_M_lowest_3 (by decide) ?_
      refine aw_icmp_ge (tgt := 22) d_M_lowest_5 (by decide) (fun c5 => ?_) (fun c5 => ?_)
      · exact absurd c5 (nI_ge (by omega) (by decide))
      · refine aw_iload_n d_M_lowest_8 rfl ?_
        refine aw_iload_n d_M_lowest_9 rfl ?_
        refine aw_ishr d_M_lowest_10 ?_
        refine aw_iconst (v := nI 1) d_M_lowest_11 (by decide) ?_
        refine aw_iand d_M_lowest_12 ?_
        rw [b_at (by omega) (by omega)]
        refine aw_if_ne (tgt := 22) d_M_lowest_13 (by decide) (fun c13 => ?_) (fun c13 => ?_)
        · exact absurd (b_nz.mp c13) ((z3 j (by omega)).resolve_left (by omega))
        · refine aw_iinc (v := nI (j + 1)) (L' := [some (.int (nI s)), some (.int (nI (j + 1)))]) d_M_lowest_16 rfl (nI_1 _) ⟨by decide, rfl⟩ rfl ?_
          refine aw_goto (tgt := 2) d_M_lowest_19 (by decide) ?_
          exact ih (j + 1) (by omega)
  refine aw_iconst (v := nI 0) d_M_lowest_0 (by decide) ?_
  refine aw_istore_n (L' := [some (.int (nI s)), some (.int (nI 0))]) d_M_lowest_1 ⟨by decide, rfl⟩ rfl ?_
  exact loop (tz s) 0 (by omega)
theorem c_holder {m : Nat} {h : ab_H} {n ns ra se : Nat} {me mi tab ve la : Int32} {tl : Nat} {at_ wr : Int32} {fe : Nat} {kp : Bool} (hM : h 56 = oM n ns ra se me mi tab ve la tl at_ wr fe kp) (hn : n ≤ 6) {t : Nat → Nat} (ht : Pm t) (hf : ∀ k, n ≤ k → t k = k) {g : Nat → Int32} (hg : h 60 = .inl (6, g)) (ag : ∀ k, k < n → g k = nI (t k)) {v : Nat} (hv : v < n) : ab_D Y_M_holder [.ref 56, .int (nI v)] m h (some (.int (nI (iv t v)))) m (h) := by
  refine ab_C.of (L := [some (.ref 56), some (.int (nI v)), none, none]) rfl rfl (Nat.le_of_ble_eq_true rfl) (fun l => ?_)
  obtain ⟨i1, i2, i3⟩ := iv_t ht (show v < 6 by omega)
  have i4 := iv_in ht hn hf hv
  have loop : ∀ k j (fo : Int32), j + k = n → (iv t v < j → fo = nI (iv t v)) → ab_W Y_M_holder none l (fun r m2 h2 => r = some (.int (nI (iv t v))) ∧ m2 = m ∧ h2 = h) 5 [some (.ref 56), some (.int (nI v)), some (.int fo), some (.int (nI j))] [] m (h) (0, 0) := by
    intro k
    induction k with
    | zero =>
      intro j fo hj e0
      have hjn : n = j := by omega
      subst hjn
      refine aw_iload_n d_M_holder_5 rfl ?_
      refine aw_aload_n d_M_holder_6 rfl ?_
      refine aw_get (k := 0) d_M_holder_7 cl_Model k_M_118 (by decide) hM rfl ?_
      refine aw_icmp_ge (tgt := 35) d_M_holder_10 (by decide) (fun c10 => ?_) (fun c10 => ?_)
      · refine aw_iload_n d_M_holder_35 rfl ?_
        refine aw_ireturn d_M_holder_36 rfl rfl ?_
        exact ⟨by rw [e0 i4], rfl, rfl⟩
      · exact absurd (Int32.le_refl _) c10
    | succ k ih =>
      intro j fo hj e0
      refine aw_iload_n d_M_holder_5 rfl ?_
      refine aw_aload_n d_M_holder_6 rfl ?_
      refine aw_get (k := 0) d_M_holder_7 cl_Model k_M_118 (by decide) hM rfl ?_
      refine aw_icmp_ge (tgt := 35) d_M_holder_10 (by decide) (fun c10 => ?_) (fun c10 => ?_)
      · exact absurd c10 (nI_ge (by omega) (by omega))
      · refine aw_aload_n d_M_holder_13 rfl ?_
        refine aw_get (k := 4) d_M_holder_14 cl_Model k_M_19 (by decide) hM rfl ?_
        refine aw_iload_n d_M_holder_17 rfl ?_
        refine aw_ialoadN d_M_holder_18 hg (by omega) (by decide) ?_
        refine aw_iload_n d_M_holder_19 rfl ?_
        refine aw_icmp_ne (tgt := 27) d_M_holder_20 (by decide) (fun c20 => ?_) (fun c20 => ?_)
        · refine aw_iload_n d_M_holder_27 rfl ?_
          refine aw_istore_n (L' := [some (.ref 56), some (.int (nI v)), some (.int fo), some (.int (nI j))]) d_M_holder_28 ⟨by decide, rfl⟩ rfl ?_
          refine aw_iinc (v := nI (j + 1)) (L' := [some (.ref 56), some (.int (nI v)), some (.int fo), some (.int (nI (j + 1)))]) d_M_holder_29 rfl (nI_1 _) ⟨by decide, rfl⟩ rfl ?_
          refine aw_goto (tgt := 5) d_M_holder_32 (by decide) ?_
          have e := ag j (by omega)
          refine ih (j + 1) _ (by omega) (fun z => ?_)
          first
            | (have q : t j = v := (nI_eq (Nat.lt_trans (ht.1 j (by omega)) (by decide)) (by omega)).mp (e.symm.trans c20)
               rw [← q, (iv_t ht (show j < 6 by omega)).2.2])
            | (have q : ¬ iv t v = j := fun q => c20 (by rw [e, ← q, i1])
               exact e0 (by omega))
        · refine aw_iload_n d_M_holder_23 rfl ?_
          refine aw_goto (tgt := 28) d_M_holder_24 (by decide) ?_
          refine aw_istore_n (L' := [some (.ref 56), some (.int (nI v)), some (.int (nI j)), some (.int (nI j))]) d_M_holder_28 ⟨by decide, rfl⟩ rfl ?_
          refine aw_iinc (v := nI (j + 1)) (L' := [some (.ref 56), some (.int (nI v)), some (.int (nI j)), some (.int (nI (j + 1)))]) d_M_holder_29 rfl (nI_1 _) ⟨by decide, rfl⟩ rfl ?_
          refine aw_goto (tgt := 5) d_M_holder_32 (by decide) ?_
          have e := ag j (by omega)
          refine ih (j + 1) _ (by omega) (fun z => ?_)
          first
            | (have q : t j = v := (nI_eq (Nat.lt_trans (ht.1 j (by omega)) (by decide)) (by omega)).mp (e.symm.trans c20)
               rw [← q, (iv_t ht (show j < 6 by omega)).2.2])
            | (have q : ¬ iv t v = j := fun q => c20 (by rw [e, ← q, i1])
               exact e0 (by omega))
  refine aw_bipush (v := (-4)) d_M_holder_0 (by decide) ?_
  refine aw_istore_n (L' := [some (.ref 56), some (.int (nI v)), some (.int (-4)), none]) d_M_holder_2 ⟨by decide, rfl⟩ rfl ?_
  refine aw_iconst (v := nI 0) d_M_holder_3 (by decide) ?_
  refine aw_istore_n (L' := [some (.ref 56), some (.int (nI v)), some (.int (-4)), some (.int (nI 0))]) d_M_holder_4 ⟨by decide, rfl⟩ rfl ?_
  exact loop n 0 _ (by omega) (fun q => absurd q (Nat.not_lt_zero _))
theorem c_strangers {m : Nat} {h : ab_H} {n ns ra se : Nat} {me mi tab ve la : Int32} {tl : Nat} {at_ wr : Int32} {fe : Nat} {kp : Bool} (hM : h 56 = oM n ns ra se me mi tab ve la tl at_ wr fe kp) (hn : n ≤ 6) {t : Nat → Nat} (ht : Pm t) (hf : ∀ k, n ≤ k → t k = k) {g : Nat → Int32} (hg : h 60 = .inl (6, g)) (ag : ∀ k, k < n → g k = nI (t k)) : ab_D Y_M_strangers [.ref 56] m h (some (.int (nI (ast t n)))) m (h) := by
  refine ab_C.of (L := [some (.ref 56), none, none]) rfl rfl (Nat.le_of_ble_eq_true rfl) (fun l => ?_)
  have loop : ∀ k j, j + k = n → ab_W Y_M_strangers none l (fun r m2 h2 => r = some (.int (nI (ast t n))) ∧ m2 = m ∧ h2 = h) 4 [some (.ref 56), some (.int (nI (ast t j))), some (.int (nI j))] [] m (h) (0, 0) := by
    intro k
    induction k with
    | zero =>
      intro j hj 
      have hjn : n = j := by omega
      subst hjn
      refine aw_iload_n d_M_strangers_4 rfl ?_
      refine aw_aload_n d_M_strangers_5 rfl ?_
      refine aw_get (k := 0) d_M_strangers_6 cl_Model k_M_118 (by decide) hM rfl ?_
      refine aw_icmp_ge (tgt := 36) d_M_strangers_9 (by decide) (fun c9 => ?_) (fun c9 => ?_)
      · refine aw_iload_n d_M_strangers_36 rfl ?_
        refine aw_ireturn d_M_strangers_37 rfl rfl ?_
        exact ⟨rfl, rfl, rfl⟩
      · exact absurd (Int32.le_refl _) c9
    | succ k ih =>
      intro j hj 
      refine aw_iload_n d_M_strangers_4 rfl ?_
      refine aw_aload_n d_M_strangers_5 rfl ?_
      refine aw_get (k := 0) d_M_strangers_6 cl_Model k_M_118 (by decide) hM rfl ?_
      refine aw_icmp_ge (tgt := 36) d_M_strangers_9 (by decide) (fun c9 => ?_) (fun c9 => ?_)
      · exact absurd c9 (nI_ge (by omega) (by omega))
      · refine aw_iload_n d_M_strangers_12 rfl ?_
        refine aw_aload_n d_M_strangers_13 rfl ?_
        refine aw_get (k := 4) d_M_strangers_14 cl_Model k_M_19 (by decide) hM rfl ?_
        refine aw_iload_n d_M_strangers_17 rfl ?_
        refine aw_ialoadN d_M_strangers_18 hg (by omega) (by decide) ?_
        refine aw_iload_n d_M_strangers_19 rfl ?_
        refine aw_icmp_ne (tgt := 27) d_M_strangers_20 (by decide) (fun c20 => ?_) (fun c20 => ?_)
        · refine aw_iconst (v := nI 1) d_M_strangers_27 (by decide) ?_
          refine aw_iadd d_M_strangers_28 ?_
          refine aw_topi (fun v29 ev29 => ?_)
          refine aw_istore_n (L' := [some (.ref 56), some (.int v29), some (.int (nI j))]) d_M_strangers_29 ⟨by decide, rfl⟩ rfl ?_
          refine aw_iinc (v := nI (j + 1)) (L' := [some (.ref 56), some (.int v29), some (.int (nI (j + 1)))]) d_M_strangers_30 rfl (nI_1 _) ⟨by decide, rfl⟩ rfl ?_
          refine aw_goto (tgt := 4) d_M_strangers_33 (by decide) ?_
          have e := ag j (by omega)
          first
            | (have q : ¬ t j = j := fun q => c20 (by rw [e, q])
               have e2 : ast t (j + 1) = ast t j + 1 := by
                 unfold ast; rw [fb_ct_succ, decide_eq_true q]; rfl
               rw [ev29, nI_add, ← e2]
               exact ih (j + 1) (by omega))
            | (have q : t j = j := (nI_eq (Nat.lt_trans (ht.1 j (by omega)) (by decide)) (by omega)).mp (e.symm.trans c20)
               have e2 : ast t (j + 1) = ast t j := by
                 unfold ast; rw [fb_ct_succ, decide_eq_false (fun z => z q)]; rfl
               rw [ev29, nI_add, Nat.add_zero, ← e2]
               exact ih (j + 1) (by omega))
        · refine aw_iconst (v := nI 0) d_M_strangers_23 (by decide) ?_
          refine aw_goto (tgt := 28) d_M_strangers_24 (by decide) ?_
          refine aw_iadd d_M_strangers_28 ?_
          refine aw_topi (fun v29 ev29 => ?_)
          refine aw_istore_n (L' := [some (.ref 56), some (.int v29), some (.int (nI j))]) d_M_strangers_29 ⟨by decide, rfl⟩ rfl ?_
          refine aw_iinc (v := nI (j + 1)) (L' := [some (.ref 56), some (.int v29), some (.int (nI (j + 1)))]) d_M_strangers_30 rfl (nI_1 _) ⟨by decide, rfl⟩ rfl ?_
          refine aw_goto (tgt := 4) d_M_strangers_33 (by decide) ?_
          have e := ag j (by omega)
          first
            | (have q : ¬ t j = j := fun q => c20 (by rw [e, q])
               have e2 : ast t (j + 1) = ast t j + 1 := by
                 unfold ast; rw [fb_ct_succ, decide_eq_true q]; rfl
               rw [ev29, nI_add, ← e2]
               exact ih (j + 1) (by omega))
            | (have q : t j = j := (nI_eq (Nat.lt_trans (ht.1 j (by omega)) (by decide)) (by omega)).mp (e.symm.trans c20)
               have e2 : ast t (j + 1) = ast t j := by
                 unfold ast; rw [fb_ct_succ, decide_eq_false (fun z => z q)]; rfl
               rw [ev29, nI_add, Nat.add_zero, ← e2]
               exact ih (j + 1) (by omega))
  refine aw_iconst (v := nI 0) d_M_strangers_0 (by decide) ?_
  refine aw_istore_n (L' := [some (.ref 56), some (.int (nI 0)), none]) d_M_strangers_1 ⟨by decide, rfl⟩ rfl ?_
  refine aw_iconst (v := nI 0) d_M_strangers_2 (by decide) ?_
  refine aw_istore_n (L' := [some (.ref 56), some (.int (nI 0)), some (.int (nI 0))]) d_M_strangers_3 ⟨by decide, rfl⟩ rfl ?_
  exact loop n 0 (by omega)
theorem b_1 {s p : Nat} : nI (s / 2 ^ p % 2) = nI 1 ↔ s / 2 ^ p % 2 = 1 := by
  rcases b_01 s p with e | e <;> rw [e] <;> decide
def wlp (n w : Nat) (t : Nat → Nat) : Nat → Bool
  | 0 => true
  | p + 1 => wlp n w t p && (decide (w / 2 ^ p % 2 = 1) || decide (w / 2 ^ iv t p % 2 = 1) || decide (iv t p = p))
theorem wlp_iff {n w : Nat} {t : Nat → Nat} : ∀ p, wlp n w t p = true ↔ ∀ q, q < p → w / 2 ^ q % 2 = 1 ∨ w / 2 ^ iv t q % 2 = 1 ∨ iv t q = q
  | 0 => ⟨fun _ q h => absurd h (Nat.not_lt_zero _), fun _ => rfl⟩
  | p + 1 => by
    unfold wlp
    rw [Bool.and_eq_true, wlp_iff p]
    simp only [Bool.or_eq_true, decide_eq_true_eq]
    refine ⟨fun ⟨h1, h2⟩ q hq => ?_, fun h => ⟨fun q hq => h q (by omega), ?_⟩⟩
    · by_cases e : q = p
      · subst e
        rcases h2 with (h2 | h2) | h2
        · exact Or.inl h2
        · exact Or.inr (Or.inl h2)
        · exact Or.inr (Or.inr h2)
      · exact h1 q (by omega)
    · rcases h p (by omega) with h2 | h2 | h2
      · exact Or.inl (Or.inl h2)
      · exact Or.inl (Or.inr h2)
      · exact Or.inr h2
theorem wlp_ow {n w : Nat} {t : Nat → Nat} (hn : n ≤ 6) (ht : Pm t) (hf : ∀ k, n ≤ k → t k = k) : wlp n w t n = ow t (bnd n w t) := by
  apply Bool.eq_iff_iff.mpr
  rw [wlp_iff, ow_iff]
  refine ⟨fun h p hp hb => ?_, fun h p hp => ?_⟩
  · obtain ⟨b1, b2, b3⟩ := (bnd_bit hn hf ht hp).mp hb
    have := ((h p b1).resolve_left b2).resolve_left b3
    have e := (iv_t ht hp).1
    rw [this] at e
    exact e
  · by_cases q1 : w / 2 ^ p % 2 = 1
    · exact Or.inl q1
    · by_cases q2 : w / 2 ^ iv t p % 2 = 1
      · exact Or.inr (Or.inl q2)
      · have := h p (by omega) ((bnd_bit hn hf ht (by omega)).mpr ⟨hp, q1, q2⟩)
        refine Or.inr (Or.inr ?_)
        have e := (iv_t ht (show p < 6 by omega)).2.2
        rw [this] at e
        exact e
theorem c_isWell {m : Nat} {h : ab_H} {n ns ra se : Nat} {me mi tab ve la : Int32} {tl : Nat} {at_ wr : Int32} {fe : Nat} {kp : Bool} (hM : h 56 = oM n ns ra se me mi tab ve la tl at_ wr fe kp) (hn : n ≤ 6) {w : Nat} {gw : Nat → Int32} (hw : h 62 = .inl (6, gw)) (aw : ∀ k, k < n → gw k = nI (w / 2 ^ k % 2)) {A NN fr : Nat} {g : Nat → Int32} (hA : h A = .inl (NN, g)) (hN : NN < 2 ^ 31) (hr : fr + n ≤ NN) {t : Nat → Nat} (ht : Pm t) (hf : ∀ k, n ≤ k → t k = k) (hg : ∀ k, k < n → g (fr + k) = nI (t k)) : ab_D Y_M_isWell [.ref 56, .ref A, .int (nI fr)] m h (some (.int (ab_bl (wlp n w t n)))) m (h) := by
  refine ab_C.of (L := [some (.ref 56), some (.ref A), some (.int (nI fr)), none, none, none, none]) rfl rfl (Nat.le_of_ble_eq_true rfl) (fun l => ?_)
  have loop : ∀ k j, j + k = n → ab_W Y_M_isWell none l (fun r m2 h2 => r = some (.int (ab_bl (wlp n w t n))) ∧ m2 = m ∧ h2 = h) 5 [some (.ref 56), some (.ref A), some (.int (nI fr)), some (.int (ab_bl (wlp n w t j))), some (.int (nI j)), none, none] [] m (h) (0, 0) := by
    intro k
    induction k with
    | zero =>
      intro j hj 
      have hjn : n = j := by omega
      subst hjn
      refine aw_iload d_M_isWell_5 rfl ?_
      refine aw_aload_n d_M_isWell_7 rfl ?_
      refine aw_get (k := 0) d_M_isWell_8 cl_Model k_M_118 (by decide) hM rfl ?_
      refine aw_icmp_ge (tgt := 101) d_M_isWell_11 (by decide) (fun c11 => ?_) (fun c11 => ?_)
      · refine aw_iload_n d_M_isWell_101 rfl ?_
        refine aw_ireturn d_M_isWell_102 rfl (ab_bl_nar _) ?_
        exact ⟨rfl, rfl, rfl⟩
      · exact absurd (Int32.le_refl _) c11
    | succ k ih =>
      intro j hj 
      obtain ⟨i1, i2, i3⟩ := iv_t ht (show j < 6 by omega)
      have i4 := iv_in ht hn hf (show j < n by omega)
      have loop2 : ∀ k2 i fo, i + k2 = n → (iv t j < i → fo = iv t j) → ab_W Y_M_isWell none l (fun r m2 h2 => r = some (.int (ab_bl (wlp n w t n))) ∧ m2 = m ∧ h2 = h) 21 [some (.ref 56), some (.ref A), some (.int (nI fr)), some (.int (ab_bl (wlp n w t j))), some (.int (nI j)), some (.int (nI fo)), some (.int (nI i))] [] m (h) (0, 0) := by
        intro k2
        induction k2 with
        | zero =>
          intro i fo hi e0
          have hin : n = i := by omega
          subst hin
          refine aw_iload d_M_isWell_21 rfl ?_
          refine aw_aload_n d_M_isWell_23 rfl ?_
          refine aw_get (k := 0) d_M_isWell_24 cl_Model k_M_118 (by decide) hM rfl ?_
          refine aw_icmp_ge (tgt := 56) d_M_isWell_27 (by decide) (fun c27 => ?_) (fun c27 => ?_)
          · rw [e0 i4]
            refine aw_iload_n d_M_isWell_56 rfl ?_
            refine aw_if_eq (tgt := 93) d_M_isWell_57 (by decide) (fun c57 => ?_) (fun c57 => ?_)
            · refine aw_iconst (v := nI 0) d_M_isWell_93 (by decide) ?_
              have w1 := aw j (by omega)
              have w2 := aw (iv t j) i4
              have e5 : (nI 0) = ab_bl (wlp n w t (j + 1)) := by
                unfold wlp
                first
                  | (rw [ab_bl_0.mp c57, Bool.false_and]; rfl)
                  | (rw [ab_bl_1.mp c57, decide_eq_true (b_1.mp (w1.symm.trans c68))]; rfl)
                  | (rw [ab_bl_1.mp c57, decide_eq_true (b_1.mp (w2.symm.trans c79)), Bool.or_true]; rfl)
                  | (rw [ab_bl_1.mp c57, decide_eq_true ((nI_eq (by omega) (by omega)).mp c86), Bool.or_true]; rfl)
                  | (rw [ab_bl_1.mp c57, decide_eq_false (fun q => c68 (w1.trans (b_1.mpr q))), decide_eq_false (fun q => c79 (w2.trans (b_1.mpr q))), decide_eq_false (fun q => c86 (by rw [q]))]; rfl)
              rw [e5]
              refine aw_topi (fun v94 ev94 => ?_)
              refine aw_istore_n (L' := [some (.ref 56), some (.ref A), some (.int (nI fr)), some (.int v94), some (.int (nI j)), some (.int (nI (iv t j))), some (.int (nI n))]) d_M_isWell_94 ⟨by decide, rfl⟩ rfl ?_
              refine aw_iinc (v := nI (j + 1)) (L' := [some (.ref 56), some (.ref A), some (.int (nI fr)), some (.int v94), some (.int (nI (j + 1))), some (.int (nI (iv t j))), some (.int (nI n))]) d_M_isWell_95 rfl (nI_1 _) ⟨by decide, rfl⟩ rfl ?_
              refine aw_goto (tgt := 5) d_M_isWell_98 (by decide) ?_
              rw [ev94]
              exact aw_drop 5 (aw_drop 6 (ih (j + 1) (by omega)))
            · refine aw_aload_n d_M_isWell_60 rfl ?_
              refine aw_get (k := 6) d_M_isWell_61 cl_Model k_M_25 (by decide) hM rfl ?_
              refine aw_iload d_M_isWell_64 rfl ?_
              refine aw_ialoadN d_M_isWell_66 hw (by omega) (by decide) ?_
              refine aw_iconst (v := nI 1) d_M_isWell_67 (by decide) ?_
              refine aw_icmp_eq (tgt := 89) d_M_isWell_68 (by decide) (fun c68 => ?_) (fun c68 => ?_)
              · refine aw_iconst (v := nI 1) d_M_isWell_89 (by decide) ?_
                refine aw_goto (tgt := 94) d_M_isWell_90 (by decide) ?_
                have w1 := aw j (by omega)
                have w2 := aw (iv t j) i4
                have e5 : (nI 1) = ab_bl (wlp n w t (j + 1)) := by
                  unfold wlp
                  first
                    | (rw [ab_bl_0.mp c57, Bool.false_and]; rfl)
                    | (rw [ab_bl_1.mp c57, decide_eq_true (b_1.mp (w1.symm.trans c68))]; rfl)
                    | (rw [ab_bl_1.mp c57, decide_eq_true (b_1.mp (w2.symm.trans c79)), Bool.or_true]; rfl)
                    | (rw [ab_bl_1.mp c57, decide_eq_true ((nI_eq (by omega) (by omega)).mp c86), Bool.or_true]; rfl)
                    | (rw [ab_bl_1.mp c57, decide_eq_false (fun q => c68 (w1.trans (b_1.mpr q))), decide_eq_false (fun q => c79 (w2.trans (b_1.mpr q))), decide_eq_false (fun q => c86 (by rw [q]))]; rfl)
                rw [e5]
                refine aw_topi (fun v94 ev94 => ?_)
                refine aw_istore_n (L' := [some (.ref 56), some (.ref A), some (.int (nI fr)), some (.int v94), some (.int (nI j)), some (.int (nI (iv t j))), some (.int (nI n))]) d_M_isWell_94 ⟨by decide, rfl⟩ rfl ?_
                refine aw_iinc (v := nI (j + 1)) (L' := [some (.ref 56), some (.ref A), some (.int (nI fr)), some (.int v94), some (.int (nI (j + 1))), some (.int (nI (iv t j))), some (.int (nI n))]) d_M_isWell_95 rfl (nI_1 _) ⟨by decide, rfl⟩ rfl ?_
                refine aw_goto (tgt := 5) d_M_isWell_98 (by decide) ?_
                rw [ev94]
                exact aw_drop 5 (aw_drop 6 (ih (j + 1) (by omega)))
              · refine aw_aload_n d_M_isWell_71 rfl ?_
                refine aw_get (k := 6) d_M_isWell_72 cl_Model k_M_25 (by decide) hM rfl ?_
                refine aw_iload d_M_isWell_75 rfl ?_
                refine aw_ialoadN d_M_isWell_77 hw (by omega) (by decide) ?_
                refine aw_iconst (v := nI 1) d_M_isWell_78 (by decide) ?_
                refine aw_icmp_eq (tgt := 89) d_M_isWell_79 (by decide) (fun c79 => ?_) (fun c79 => ?_)
                · refine aw_iconst (v := nI 1) d_M_isWell_89 (by decide) ?_
                  refine aw_goto (tgt := 94) d_M_isWell_90 (by decide) ?_
                  have w1 := aw j (by omega)
                  have w2 := aw (iv t j) i4
                  have e5 : (nI 1) = ab_bl (wlp n w t (j + 1)) := by
                    unfold wlp
                    first
                      | (rw [ab_bl_0.mp c57, Bool.false_and]; rfl)
                      | (rw [ab_bl_1.mp c57, decide_eq_true (b_1.mp (w1.symm.trans c68))]; rfl)
                      | (rw [ab_bl_1.mp c57, decide_eq_true (b_1.mp (w2.symm.trans c79)), Bool.or_true]; rfl)
                      | (rw [ab_bl_1.mp c57, decide_eq_true ((nI_eq (by omega) (by omega)).mp c86), Bool.or_true]; rfl)
                      | (rw [ab_bl_1.mp c57, decide_eq_false (fun q => c68 (w1.trans (b_1.mpr q))), decide_eq_false (fun q => c79 (w2.trans (b_1.mpr q))), decide_eq_false (fun q => c86 (by rw [q]))]; rfl)
                  rw [e5]
                  refine aw_topi (fun v94 ev94 => ?_)
                  refine aw_istore_n (L' := [some (.ref 56), some (.ref A), some (.int (nI fr)), some (.int v94), some (.int (nI j)), some (.int (nI (iv t j))), some (.int (nI n))]) d_M_isWell_94 ⟨by decide, rfl⟩ rfl ?_
                  refine aw_iinc (v := nI (j + 1)) (L' := [some (.ref 56), some (.ref A), some (.int (nI fr)), some (.int v94), some (.int (nI (j + 1))), some (.int (nI (iv t j))), some (.int (nI n))]) d_M_isWell_95 rfl (nI_1 _) ⟨by decide, rfl⟩ rfl ?_
                  refine aw_goto (tgt := 5) d_M_isWell_98 (by decide) ?_
                  rw [ev94]
                  exact aw_drop 5 (aw_drop 6 (ih (j + 1) (by omega)))
                · refine aw_iload d_M_isWell_82 rfl ?_
                  refine aw_iload d_M_isWell_84 rfl ?_
                  refine aw_icmp_ne (tgt := 93) d_M_isWell_86 (by decide) (fun c86 => ?_) (fun c86 => ?_)
                  · refine aw_iconst (v := nI 0) d_M_isWell_93 (by decide) ?_
                    have w1 := aw j (by omega)
                    have w2 := aw (iv t j) i4
                    have e5 : (nI 0) = ab_bl (wlp n w t (j + 1)) := by
                      unfold wlp
                      first
                        | (rw [ab_bl_0.mp c57, Bool.false_and]; rfl)
                        | (rw [ab_bl_1.mp c57, decide_eq_true (b_1.mp (w1.symm.trans c68))]; rfl)
                        | (rw [ab_bl_1.mp c57, decide_eq_true (b_1.mp (w2.symm.trans c79)), Bool.or_true]; rfl)
                        | (rw [ab_bl_1.mp c57, decide_eq_true ((nI_eq (by omega) (by omega)).mp c86), Bool.or_true]; rfl)
                        | (rw [ab_bl_1.mp c57, decide_eq_false (fun q => c68 (w1.trans (b_1.mpr q))), decide_eq_false (fun q => c79 (w2.trans (b_1.mpr q))), decide_eq_false (fun q => c86 (by rw [q]))]; rfl)
                    rw [e5]
                    refine aw_topi (fun v94 ev94 => ?_)
                    refine aw_istore_n (L' := [some (.ref 56), some (.ref A), some (.int (nI fr)), some (.int v94), some (.int (nI j)), some (.int (nI (iv t j))), some (.int (nI n))]) d_M_isWell_94 ⟨by decide, rfl⟩ rfl ?_
                    refine aw_iinc (v := nI (j + 1)) (L' := [some (.ref 56), some (.ref A), some (.int (nI fr)), some (.int v94), some (.int (nI (j + 1))), some (.int (nI (iv t j))), some (.int (nI n))]) d_M_isWell_95 rfl (nI_1 _) ⟨by decide, rfl⟩ rfl ?_
                    refine aw_goto (tgt := 5) d_M_isWell_98 (by decide) ?_
                    rw [ev94]
                    exact aw_drop 5 (aw_drop 6 (ih (j + 1) (by omega)))
                  · refine aw_iconst (v := nI 1) d_M_isWell_89 (by decide) ?_
                    refine aw_goto (tgt := 94) d_M_isWell_90 (by decide) ?_
                    have w1 := aw j (by omega)
                    have w2 := aw (iv t j) i4
                    have e5 : (nI 1) = ab_bl (wlp n w t (j + 1)) := by
                      unfold wlp
                      first
                        | (rw [ab_bl_0.mp c57, Bool.false_and]; rfl)
                        | (rw [ab_bl_1.mp c57, decide_eq_true (b_1.mp (w1.symm.trans c68))]; rfl)
                        | (rw [ab_bl_1.mp c57, decide_eq_true (b_1.mp (w2.symm.trans c79)), Bool.or_true]; rfl)
                        | (rw [ab_bl_1.mp c57, decide_eq_true ((nI_eq (by omega) (by omega)).mp c86), Bool.or_true]; rfl)
                        | (rw [ab_bl_1.mp c57, decide_eq_false (fun q => c68 (w1.trans (b_1.mpr q))), decide_eq_false (fun q => c79 (w2.trans (b_1.mpr q))), decide_eq_false (fun q => c86 (by rw [q]))]; rfl)
                    rw [e5]
                    refine aw_topi (fun v94 ev94 => ?_)
                    refine aw_istore_n (L' := [some (.ref 56), some (.ref A), some (.int (nI fr)), some (.int v94), some (.int (nI j)), some (.int (nI (iv t j))), some (.int (nI n))]) d_M_isWell_94 ⟨by decide, rfl⟩ rfl ?_
                    refine aw_iinc (v := nI (j + 1)) (L' := [some (.ref 56), some (.ref A), some (.int (nI fr)), some (.int v94), some (.int (nI (j + 1))), some (.int (nI (iv t j))), some (.int (nI n))]) d_M_isWell_95 rfl (nI_1 _) ⟨by decide, rfl⟩ rfl ?_
                    refine aw_goto (tgt := 5) d_M_isWell_98 (by decide) ?_
                    rw [ev94]
                    exact aw_drop 5 (aw_drop 6 (ih (j + 1) (by omega)))
          · exact absurd (Int32.le_refl _) c27
        | succ k2 ih2 =>
          intro i fo hi e0
          refine aw_iload d_M_isWell_21 rfl ?_
          refine aw_aload_n d_M_isWell_23 rfl ?_
          refine aw_get (k := 0) d_M_isWell_24 cl_Model k_M_118 (by decide) hM rfl ?_
          refine aw_icmp_ge (tgt := 56) d_M_isWell_27 (by decide) (fun c27 => ?_) (fun c27 => ?_)
          · exact absurd c27 (nI_ge (by omega) (by omega))
          · refine aw_aload_n d_M_isWell_30 rfl ?_
            refine aw_iload_n d_M_isWell_31 rfl ?_
            refine aw_iload d_M_isWell_32 rfl ?_
            refine aw_iadd d_M_isWell_34 ?_
            rw [nI_add]
            refine aw_ialoadN d_M_isWell_35 hA (by omega) hN ?_
            refine aw_iload d_M_isWell_36 rfl ?_
            refine aw_icmp_ne (tgt := 46) d_M_isWell_38 (by decide) (fun c38 => ?_) (fun c38 => ?_)
            · refine aw_iload d_M_isWell_46 rfl ?_
              refine aw_istore (L' := [some (.ref 56), some (.ref A), some (.int (nI fr)), some (.int (ab_bl (wlp n w t j))), some (.int (nI j)), some (.int (nI fo)), some (.int (nI i))]) d_M_isWell_48 ⟨by decide, rfl⟩ rfl ?_
              refine aw_iinc (v := nI (i + 1)) (L' := [some (.ref 56), some (.ref A), some (.int (nI fr)), some (.int (ab_bl (wlp n w t j))), some (.int (nI j)), some (.int (nI fo)), some (.int (nI (i + 1)))]) d_M_isWell_50 rfl (nI_1 _) ⟨by decide, rfl⟩ rfl ?_
              refine aw_goto (tgt := 21) d_M_isWell_53 (by decide) ?_
              have e := hg i (by omega)
              first
                | (have q : t i = j := (nI_eq (Nat.lt_trans (ht.1 i (by omega)) (by decide)) (by omega)).mp (e.symm.trans c38)
                   exact ih2 (i + 1) i (by omega) (fun z => by rw [← q, (iv_t ht (show i < 6 by omega)).2.2]))
                | (have q : ¬ iv t j = i := fun q => c38 (by rw [e, ← q, i1])
                   exact ih2 (i + 1) fo (by omega) (fun z => e0 (by omega)))
            · refine aw_iload d_M_isWell_41 rfl ?_
              refine aw_goto (tgt := 48) d_M_isWell_43 (by decide) ?_
              refine aw_istore (L' := [some (.ref 56), some (.ref A), some (.int (nI fr)), some (.int (ab_bl (wlp n w t j))), some (.int (nI j)), some (.int (nI i)), some (.int (nI i))]) d_M_isWell_48 ⟨by decide, rfl⟩ rfl ?_
              refine aw_iinc (v := nI (i + 1)) (L' := [some (.ref 56), some (.ref A), some (.int (nI fr)), some (.int (ab_bl (wlp n w t j))), some (.int (nI j)), some (.int (nI i)), some (.int (nI (i + 1)))]) d_M_isWell_50 rfl (nI_1 _) ⟨by decide, rfl⟩ rfl ?_
              refine aw_goto (tgt := 21) d_M_isWell_53 (by decide) ?_
              have e := hg i (by omega)
              first
                | (have q : t i = j := (nI_eq (Nat.lt_trans (ht.1 i (by omega)) (by decide)) (by omega)).mp (e.symm.trans c38)
                   exact ih2 (i + 1) i (by omega) (fun z => by rw [← q, (iv_t ht (show i < 6 by omega)).2.2]))
                | (have q : ¬ iv t j = i := fun q => c38 (by rw [e, ← q, i1])
                   exact ih2 (i + 1) fo (by omega) (fun z => e0 (by omega)))
      refine aw_iload d_M_isWell_5 rfl ?_
      refine aw_aload_n d_M_isWell_7 rfl ?_
      refine aw_get (k := 0) d_M_isWell_8 cl_Model k_M_118 (by decide) hM rfl ?_
      refine aw_icmp_ge (tgt := 101) d_M_isWell_11 (by decide) (fun c11 => ?_) (fun c11 => ?_)
      · exact absurd c11 (nI_ge (by omega) (by omega))
      · refine aw_iload d_M_isWell_14 rfl ?_
        refine aw_istore (L' := [some (.ref 56), some (.ref A), some (.int (nI fr)), some (.int (ab_bl (wlp n w t j))), some (.int (nI j)), some (.int (nI j)), none]) d_M_isWell_16 ⟨by decide, rfl⟩ rfl ?_
        refine aw_iconst (v := nI 0) d_M_isWell_18 (by decide) ?_
        refine aw_istore (L' := [some (.ref 56), some (.ref A), some (.int (nI fr)), some (.int (ab_bl (wlp n w t j))), some (.int (nI j)), some (.int (nI j)), some (.int (nI 0))]) d_M_isWell_19 ⟨by decide, rfl⟩ rfl ?_
        exact loop2 n 0 j (by omega) (fun q => absurd q (Nat.not_lt_zero _))
  refine aw_iconst (v := nI 1) d_M_isWell_0 (by decide) ?_
  refine aw_istore_n (L' := [some (.ref 56), some (.ref A), some (.int (nI fr)), some (.int (nI 1)), none, none, none]) d_M_isWell_1 ⟨by decide, rfl⟩ rfl ?_
  refine aw_iconst (v := nI 0) d_M_isWell_2 (by decide) ?_
  refine aw_istore (L' := [some (.ref 56), some (.ref A), some (.int (nI fr)), some (.int (nI 1)), some (.int (nI 0)), none, none]) d_M_isWell_3 ⟨by decide, rfl⟩ rfl ?_
  exact loop n 0 (by omega)
