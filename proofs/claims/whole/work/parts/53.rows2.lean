/-- who has it -/
def iv (t : Nat → Nat) (v : Nat) : Nat := if t 0 = v then 0 else if t 1 = v then 1 else if t 2 = v then 2 else if t 3 = v then 3 else if t 4 = v then 4 else if t 5 = v then 5 else v
theorem iv_all : pl6.all (fun t => (List.range 6).all (fun v => t (iv t v) == v && decide (iv t v < 6) && iv t (t v) == v)) = true := by decide +kernel
theorem iv_t {t : Nat → Nat} (ht : Pm t) {v : Nat} (hv : v < 6) : t (iv t v) = v ∧ iv t v < 6 ∧ iv t (t v) = v := by
  have h := List.all_eq_true.mp (ht.all iv_all) v (List.mem_range.mpr hv)
  simp only [Bool.and_eq_true, beq_iff_eq, decide_eq_true_eq] at h
  exact ⟨h.1.1, h.1.2, h.2⟩
theorem iv_in {t : Nat → Nat} (ht : Pm t) {n : Nat} (hn : n ≤ 6) (hf : ∀ k, n ≤ k → t k = k) {v : Nat} (hv : v < n) : iv t v < n := by
  obtain ⟨h1, h2, h3⟩ := iv_t ht (show v < 6 by omega)
  refine Nat.not_le.mp fun q => ?_
  have := hf _ q
  omega
/-- those of a set have their own -/
def ow (t : Nat → Nat) (s : Nat) : Bool := (List.range 6).all (fun p => !(decide (s / 2 ^ p % 2 = 1)) || decide (t p = p))
theorem ow_iff {t : Nat → Nat} {s : Nat} : ow t s = true ↔ ∀ p, p < 6 → s / 2 ^ p % 2 = 1 → t p = p := by
  unfold ow
  rw [List.all_eq_true]
  refine ⟨fun h p hp q => ?_, fun h p hp => ?_⟩
  · have := h p (List.mem_range.mpr hp)
    simp only [Bool.or_eq_true, Bool.not_eq_true', decide_eq_false_iff_not, decide_eq_true_eq] at this
    exact this.resolve_left (fun z => z q)
  · simp only [Bool.or_eq_true, Bool.not_eq_true', decide_eq_false_iff_not, decide_eq_true_eq]
    exact Classical.byCases (fun q : s / 2 ^ p % 2 = 1 => Or.inr (h p (List.mem_range.mp hp) q)) Or.inl
theorem ow_no {t : Nat → Nat} {s p : Nat} (hp : p < 6) (h1 : s / 2 ^ p % 2 = 1) (h2 : ¬ t p = p) : ow t s = false := by
  cases e : ow t s with
  | false => rfl
  | true => exact absurd (ow_iff.mp e p hp h1) h2
/-- a walk's loop that counts up -/
theorem up_to {P : Nat → Prop} {n : Nat} (h : ∀ k j, j + k = n → P j) : P 0 := h n 0 (Nat.zero_add n)
theorem c_placeOf {m : Nat} {h : ab_H} {t : Nat → Nat} (ht : Pm t) {v : Nat} (hv : v < 6) : ab_D Y_Rows_placeOf [.int (nI (pk t)), .int (nI v)] m h (some (.int (nI (iv t v)))) m h := by
  refine ab_C.of (L := [some (.int (nI (pk t))), some (.int (nI v)), none]) rfl rfl (Nat.le_of_ble_eq_true rfl) (fun l => ?_)
  have ht8 := ht.lt8
  obtain ⟨i1, i2, i3⟩ := iv_t ht hv
  have loop : ∀ k j , j + k = 6 → (∀ i, i < j → t i ≠ v) → ab_W Y_Rows_placeOf none l (fun r m2 h2 => r = some (.int (nI (iv t v))) ∧ m2 = m ∧ h2 = h) 2 [some (.int (nI (pk t))), some (.int (nI v)), some (.int (nI j))] [] m h (0, 0) := by
    intro k
    induction k with
    | zero =>
      intro j hj e
      exact absurd i1 (e _ (by omega))
    | succ k ih =>
      intro j hj e
      refine aw_iload_n d_Rows_placeOf_2 rfl ?_
      refine aw_bipush (v := nI 6) d_Rows_placeOf_3 (by decide) ?_
      refine aw_icmp_ge (tgt := 25) d_Rows_placeOf_5 (by decide) (fun c5 => ?_) (fun c5 => ?_)
      · exact absurd c5 (nI_ge (by omega) (by decide))
      · refine aw_iload_n d_Rows_placeOf_8 rfl ?_
        refine aw_iload_n d_Rows_placeOf_9 rfl ?_
        refine aw_s0i d_Rows_placeOf_10 k_Rows_16 ok_Rows_at rfl ⟨rfl, rfl⟩ (c_at ht8 (show j < 6 by omega)) rfl rfl (Nat.le_of_ble_eq_true rfl) ?_
        refine aw_iload_n d_Rows_placeOf_13 rfl ?_
        refine aw_icmp_ne (tgt := 19) d_Rows_placeOf_14 (by decide) (fun c14 => ?_) (fun c14 => ?_)
        · refine aw_iinc (v := nI (j + 1)) (L' := [some (.int (nI (pk t))), some (.int (nI v)), some (.int (nI (j + 1)))]) d_Rows_placeOf_19 rfl (nI_1 _) ⟨by decide, rfl⟩ rfl ?_
          refine aw_goto (tgt := 2) d_Rows_placeOf_22 (by decide) ?_
          refine ih (j + 1) (by omega) (fun i hi => ?_)
          by_cases q : i = j
          · subst q; exact fun q => c14 (by rw [q])
          · exact e i (by omega)
        · refine aw_iload_n d_Rows_placeOf_17 rfl ?_
          refine aw_ireturn d_Rows_placeOf_18 rfl rfl ?_
          have e2 := (nI_eq (Nat.lt_trans (ht.1 j (by omega)) (by decide)) (by omega)).mp c14
          have : iv t v = j := by rw [← e2]; exact (iv_t ht (by omega)).2.2
          exact ⟨by rw [this], rfl, rfl⟩

  refine aw_iconst (v := nI 0) d_Rows_placeOf_0 (by decide) ?_
  refine aw_istore_n (L' := [some (.int (nI (pk t))), some (.int (nI v)), some (.int (nI 0))]) d_Rows_placeOf_1 ⟨by decide, rfl⟩ rfl ?_
  exact loop 6 0 rfl (fun i hi => absurd hi (Nat.not_lt_zero _))
theorem c_areOwn {m : Nat} {h : ab_H} {t : Nat → Nat} (ht : Pm t) {s : Nat} (hs : s < 2 ^ 31) : ab_D Y_Rows_areOwn [.int (nI (pk t)), .int (nI s)] m h (some (.int (ab_bl (ow t s)))) m h := by
  refine ab_C.of (L := [some (.int (nI (pk t))), some (.int (nI s)), none]) rfl rfl (Nat.le_of_ble_eq_true rfl) (fun l => ?_)
  have ht8 := ht.lt8
  have loop : ∀ k j , j + k = 6 → (∀ i, i < j → s / 2 ^ i % 2 = 1 → t i = i) → ab_W Y_Rows_areOwn none l (fun r m2 h2 => r = some (.int (ab_bl (ow t s))) ∧ m2 = m ∧ h2 = h) 2 [some (.int (nI (pk t))), some (.int (nI s)), some (.int (nI j))] [] m h (0, 0) := by
    intro k
    induction k with
    | zero =>
      intro j hj e
      have hj6 : j = 6 := by omega
      subst hj6
      refine aw_iload_n d_Rows_areOwn_2 rfl ?_
      refine aw_bipush (v := nI 6) d_Rows_areOwn_3 (by decide) ?_
      refine aw_icmp_ge (tgt := 33) d_Rows_areOwn_5 (by decide) (fun c5 => ?_) (fun c5 => ?_)
      · refine aw_iconst (v := nI 1) d_Rows_areOwn_33 (by decide) ?_
        refine aw_ireturn d_Rows_areOwn_34 rfl (by decide) ?_
        exact ⟨by rw [show ow t s = true from ow_iff.mpr e]; rfl, rfl, rfl⟩
      · exact absurd (Int32.le_refl _) c5
    | succ k ih =>
      intro j hj e
      refine aw_iload_n d_Rows_areOwn_2 rfl ?_
      refine aw_bipush (v := nI 6) d_Rows_areOwn_3 (by decide) ?_
      refine aw_icmp_ge (tgt := 33) d_Rows_areOwn_5 (by decide) (fun c5 => ?_) (fun c5 => ?_)
      · exact absurd c5 (nI_ge (by omega) (by decide))
      · refine aw_iload_n d_Rows_areOwn_8 rfl ?_
        refine aw_iload_n d_Rows_areOwn_9 rfl ?_
        refine aw_ishr d_Rows_areOwn_10 ?_
        refine aw_iconst (v := nI 1) d_Rows_areOwn_11 (by decide) ?_
        refine aw_iand d_Rows_areOwn_12 ?_
        rw [b_at hs (by omega)]
        refine aw_if_eq (tgt := 27) d_Rows_areOwn_13 (by decide) (fun c13 => ?_) (fun c13 => ?_)
        · refine aw_iinc (v := nI (j + 1)) (L' := [some (.int (nI (pk t))), some (.int (nI s)), some (.int (nI (j + 1)))]) d_Rows_areOwn_27 rfl (nI_1 _) ⟨by decide, rfl⟩ rfl ?_
          refine aw_goto (tgt := 2) d_Rows_areOwn_30 (by decide) ?_
          refine ih (j + 1) (by omega) (fun i hi => ?_)
          by_cases q : i = j
          · subst q
            first
              | (intro z; exact absurd z (b_z.mp c13))
              | (intro z; exact (nI_eq (Nat.lt_trans (ht.1 i (by omega)) (by decide)) (by omega)).mp c22)
          · exact e i (by omega)
        · refine aw_iload_n d_Rows_areOwn_16 rfl ?_
          refine aw_iload_n d_Rows_areOwn_17 rfl ?_
          refine aw_s0i d_Rows_areOwn_18 k_Rows_16 ok_Rows_at rfl ⟨rfl, rfl⟩ (c_at ht8 (show j < 6 by omega)) rfl rfl (Nat.le_of_ble_eq_true rfl) ?_
          refine aw_iload_n d_Rows_areOwn_21 rfl ?_
          refine aw_icmp_eq (tgt := 27) d_Rows_areOwn_22 (by decide) (fun c22 => ?_) (fun c22 => ?_)
          · refine aw_iinc (v := nI (j + 1)) (L' := [some (.int (nI (pk t))), some (.int (nI s)), some (.int (nI (j + 1)))]) d_Rows_areOwn_27 rfl (nI_1 _) ⟨by decide, rfl⟩ rfl ?_
            refine aw_goto (tgt := 2) d_Rows_areOwn_30 (by decide) ?_
            refine ih (j + 1) (by omega) (fun i hi => ?_)
            by_cases q : i = j
            · subst q
              first
                | (intro z; exact absurd z (b_z.mp c13))
                | (intro z; exact (nI_eq (Nat.lt_trans (ht.1 i (by omega)) (by decide)) (by omega)).mp c22)
            · exact e i (by omega)
          · refine aw_iconst (v := nI 0) d_Rows_areOwn_25 (by decide) ?_
            refine aw_ireturn d_Rows_areOwn_26 rfl (by decide) ?_
            have e2 : ¬ t j = j := fun q => c22 (by rw [q])
            exact ⟨by rw [show ow t s = false from ow_no (show j < 6 by omega) (b_nz.mp c13) e2]; rfl, rfl, rfl⟩

  refine aw_iconst (v := nI 0) d_Rows_areOwn_0 (by decide) ?_
  refine aw_istore_n (L' := [some (.int (nI (pk t))), some (.int (nI s)), some (.int (nI 0))]) d_Rows_areOwn_1 ⟨by decide, rfl⟩ rfl ?_
  exact loop 6 0 rfl (fun i hi => absurd hi (Nat.not_lt_zero _))
theorem c_ring {m : Nat} {h : ab_H} {t : Nat → Nat} (ht : Pm t) {a : Nat} (ha : a < 6) : ab_D Y_Rows_ring [.int (nI (pk t)), .int (nI a)] m h (some (.int (nI (rg t a)))) m h := by
  refine ab_C.of (L := [some (.int (nI (pk t))), some (.int (nI a)), none, none, none]) rfl rfl (Nat.le_of_ble_eq_true rfl) (fun l => ?_)
  have ht8 := ht.lt8
  have loop : ∀ k j q acc, j + k = 6 → q < 6 → acc < 64 → rgo t a k q acc = rg t a → ab_W Y_Rows_ring none l (fun r m2 h2 => r = some (.int (nI (rg t a))) ∧ m2 = m ∧ h2 = h) 13 [some (.int (nI (pk t))), some (.int (nI a)), some (.int (nI acc)), some (.int (nI q)), some (.int (nI j))] [] m h (0, 0) := by
    intro k
    induction k with
    | zero =>
      intro j q acc hj hq hacc e
      have hj6 : j = 6 := by omega
      subst hj6
      refine aw_iload d_Rows_ring_13 rfl ?_
      refine aw_bipush (v := nI 6) d_Rows_ring_15 (by decide) ?_
      refine aw_icmp_ge (tgt := 43) d_Rows_ring_17 (by decide) (fun c17 => ?_) (fun c17 => ?_)
      · refine aw_iload_n d_Rows_ring_43 rfl ?_
        refine aw_ireturn d_Rows_ring_44 rfl rfl ?_
        exact ⟨by rw [← e]; rfl, rfl, rfl⟩
      · exact absurd (Int32.le_refl _) c17
    | succ k ih =>
      intro j q acc hj hq hacc e
      refine aw_iload d_Rows_ring_13 rfl ?_
      refine aw_bipush (v := nI 6) d_Rows_ring_15 (by decide) ?_
      refine aw_icmp_ge (tgt := 43) d_Rows_ring_17 (by decide) (fun c17 => ?_) (fun c17 => ?_)
      · exact absurd c17 (nI_ge (by omega) (by decide))
      · refine aw_iload_n d_Rows_ring_20 rfl ?_
        refine aw_iload_n d_Rows_ring_21 rfl ?_
        refine aw_icmp_eq (tgt := 43) d_Rows_ring_22 (by decide) (fun c22 => ?_) (fun c22 => ?_)
        · refine aw_iload_n d_Rows_ring_43 rfl ?_
          refine aw_ireturn d_Rows_ring_44 rfl rfl ?_
          have e2 := (nI_eq (by omega) (by omega)).mp c22
          exact ⟨by rw [← e, rgo, if_pos e2], rfl, rfl⟩
        · refine aw_iload_n d_Rows_ring_25 rfl ?_
          refine aw_iconst (v := nI 1) d_Rows_ring_26 (by decide) ?_
          refine aw_iload_n d_Rows_ring_27 rfl ?_
          refine aw_ishl d_Rows_ring_28 ?_
          refine aw_ior d_Rows_ring_29 ?_
          rw [b_one (by omega), fa_or]
          refine aw_istore_n (L' := [some (.int (nI (pk t))), some (.int (nI a)), some (.int (nI (acc ||| 2 ^ q))), some (.int (nI q)), some (.int (nI j))]) d_Rows_ring_30 ⟨by decide, rfl⟩ rfl ?_
          refine aw_iload_n d_Rows_ring_31 rfl ?_
          refine aw_iload_n d_Rows_ring_32 rfl ?_
          refine aw_s0i d_Rows_ring_33 k_Rows_16 ok_Rows_at rfl ⟨rfl, rfl⟩ (c_at ht8 hq) rfl rfl (Nat.le_of_ble_eq_true rfl) ?_
          refine aw_istore_n (L' := [some (.int (nI (pk t))), some (.int (nI a)), some (.int (nI (acc ||| 2 ^ q))), some (.int (nI (t q))), some (.int (nI j))]) d_Rows_ring_36 ⟨by decide, rfl⟩ rfl ?_
          refine aw_iinc (v := nI (j + 1)) (L' := [some (.int (nI (pk t))), some (.int (nI a)), some (.int (nI (acc ||| 2 ^ q))), some (.int (nI (t q))), some (.int (nI (j + 1)))]) d_Rows_ring_37 rfl (nI_1 _) ⟨by decide, rfl⟩ rfl ?_
          refine aw_goto (tgt := 13) d_Rows_ring_40 (by decide) ?_
          have e2 : ¬ q = a := fun z => c22 (by rw [z])
          rw [rgo, if_neg e2] at e
          exact ih (j + 1) (t q) _ (by omega) (ht.1 q hq) (b_or (k := 6) hacc (p6_lt hq)) e

  refine aw_iconst (v := nI 1) d_Rows_ring_0 (by decide) ?_
  refine aw_iload_n d_Rows_ring_1 rfl ?_
  refine aw_ishl d_Rows_ring_2 ?_
  rw [b_one (by omega)]
  refine aw_istore_n (L' := [some (.int (nI (pk t))), some (.int (nI a)), some (.int (nI (2 ^ a))), none, none]) d_Rows_ring_3 ⟨by decide, rfl⟩ rfl ?_
  refine aw_iload_n d_Rows_ring_4 rfl ?_
  refine aw_iload_n d_Rows_ring_5 rfl ?_
  refine aw_s0i d_Rows_ring_6 k_Rows_16 ok_Rows_at rfl ⟨rfl, rfl⟩ (c_at ht8 ha) rfl rfl (Nat.le_of_ble_eq_true rfl) ?_
  refine aw_istore_n (L' := [some (.int (nI (pk t))), some (.int (nI a)), some (.int (nI (2 ^ a))), some (.int (nI (t a))), none]) d_Rows_ring_9 ⟨by decide, rfl⟩ rfl ?_
  refine aw_iconst (v := nI 1) d_Rows_ring_10 (by decide) ?_
  refine aw_istore (L' := [some (.int (nI (pk t))), some (.int (nI a)), some (.int (nI (2 ^ a))), some (.int (nI (t a))), some (.int (nI 1))]) d_Rows_ring_11 ⟨by decide, rfl⟩ rfl ?_
  exact loop 5 1 (t a) (2 ^ a) rfl (ht.1 a ha) (p6_lt ha) rfl
theorem c_ringOf {m : Nat} {h : ab_H} {A NN fr n : Nat} {g : Nat → Int32} (hA : h A = .inl (NN, g)) (hN : NN < 2 ^ 31) {t : Nat → Nat} (ht : Pm t) (hn : n ≤ 6) (hf : ∀ k, n ≤ k → t k = k) (hr : fr + n ≤ NN) (hg : ∀ k, k < n → g (fr + k) = nI (t k)) {a : Nat} (ha : a < n) : ab_D Y_M_ringOf [.ref A, .int (nI fr), .int (nI a)] m h (some (.int (nI (10 * tz (rg t a) + pop (rg t a))))) m h := by
  refine ab_C.of (L := [some (.ref A), some (.int (nI fr)), some (.int (nI a)), none, none, none]) rfl rfl (Nat.le_of_ble_eq_true rfl) (fun l => ?_)
  obtain ⟨r1, r2, r3, r4⟩ := rg_t ht (show a < 6 by omega)
  have loop : ∀ f o le c, o < n → le < 6 → rch t a f o = true → rno t a f o le c = (tz (rg t a), pop (rg t a)) → ab_W Y_M_ringOf none l (fun r m2 h2 => r = some (.int (nI (10 * tz (rg t a) + pop (rg t a)))) ∧ m2 = m ∧ h2 = h) 12 [some (.ref A), some (.int (nI fr)), some (.int (nI a)), some (.int (nI le)), some (.int (nI c)), some (.int (nI o))] [] m h (0, 0) := by
    intro f
    induction f with
    | zero =>
      intro o le c ho hle e1 e2
      have e3 : o = a := by simpa [rch] using e1
      have e4 : le = tz (rg t a) ∧ c = pop (rg t a) := by simpa [rno] using e2
      refine aw_iload d_M_ringOf_12 rfl ?_
      refine aw_iload_n d_M_ringOf_14 rfl ?_
      refine aw_icmp_eq (tgt := 45) d_M_ringOf_15 (by decide) (fun c15 => ?_) (fun c15 => ?_)
      · refine aw_bipush (v := nI 10) d_M_ringOf_45 (by decide) ?_
        refine aw_iload_n d_M_ringOf_47 rfl ?_
        refine aw_imul d_M_ringOf_48 ?_
        refine aw_iload d_M_ringOf_49 rfl ?_
        refine aw_iadd d_M_ringOf_51 ?_
        refine aw_ireturn d_M_ringOf_52 rfl rfl ?_
        refine ⟨?_, rfl, rfl⟩
        rw [pk_mul, nI_add, e4.1, e4.2]
      · exact absurd (by rw [e3]) c15
    | succ f ih =>
      intro o le c ho hle e1 e2
      refine aw_iload d_M_ringOf_12 rfl ?_
      refine aw_iload_n d_M_ringOf_14 rfl ?_
      refine aw_icmp_eq (tgt := 45) d_M_ringOf_15 (by decide) (fun c15 => ?_) (fun c15 => ?_)
      · refine aw_bipush (v := nI 10) d_M_ringOf_45 (by decide) ?_
        refine aw_iload_n d_M_ringOf_47 rfl ?_
        refine aw_imul d_M_ringOf_48 ?_
        refine aw_iload d_M_ringOf_49 rfl ?_
        refine aw_iadd d_M_ringOf_51 ?_
        refine aw_ireturn d_M_ringOf_52 rfl rfl ?_
        have e3 := (nI_eq (by omega) (by omega)).mp c15
        rw [rno, if_pos e3] at e2
        have e4 : le = tz (rg t a) ∧ c = pop (rg t a) := by simpa using e2
        exact ⟨by rw [pk_mul, nI_add, e4.1, e4.2], rfl, rfl⟩
      · refine aw_iload d_M_ringOf_18 rfl ?_
        refine aw_iload_n d_M_ringOf_20 rfl ?_
        refine aw_icmp_ge (tgt := 29) d_M_ringOf_21 (by decide) (fun c21 => ?_) (fun c21 => ?_)
        · refine aw_iload_n d_M_ringOf_29 rfl ?_
          refine aw_is (y := nI (if o < le then o else le)) ?_ ?_
          · first
              | (rw [if_neg (Nat.not_lt.mpr ((nI_leI (by omega) (by omega)).mp c21))])
              | (rw [if_pos (Nat.not_le.mp (fun q => c21 ((nI_leI (by omega) (by omega)).mpr q)))])
          refine aw_istore_n (L' := [some (.ref A), some (.int (nI fr)), some (.int (nI a)), some (.int (nI (if o < le then o else le))), some (.int (nI c)), some (.int (nI o))]) d_M_ringOf_30 ⟨by decide, rfl⟩ rfl ?_
          refine aw_iinc (v := nI (c + 1)) (L' := [some (.ref A), some (.int (nI fr)), some (.int (nI a)), some (.int (nI (if o < le then o else le))), some (.int (nI (c + 1))), some (.int (nI o))]) d_M_ringOf_31 rfl (nI_1 _) ⟨by decide, rfl⟩ rfl ?_
          refine aw_aload_n d_M_ringOf_34 rfl ?_
          refine aw_iload_n d_M_ringOf_35 rfl ?_
          refine aw_iload d_M_ringOf_36 rfl ?_
          refine aw_iadd d_M_ringOf_38 ?_
          rw [nI_add]
          refine aw_ialoadN d_M_ringOf_39 hA (by omega) hN ?_
          refine aw_topi (fun v40 ev40 => ?_)
          refine aw_istore (L' := [some (.ref A), some (.int (nI fr)), some (.int (nI a)), some (.int (nI (if o < le then o else le))), some (.int (nI (c + 1))), some (.int v40)]) d_M_ringOf_40 ⟨by decide, rfl⟩ rfl ?_
          refine aw_goto (tgt := 12) d_M_ringOf_42 (by decide) ?_
          have e3 : ¬ o = a := fun z => c15 (by rw [z])
          rw [rno, if_neg e3] at e2
          rw [rch, Bool.or_eq_true, beq_iff_eq] at e1
          have e5 := hg o ho
          first
            | (rw [ev40, e5])
            | (rw [ev40', e5])
          refine ih (t o) _ (c + 1) (ht.in hn hf ho) ?_ (e1.resolve_left e3) e2
          split <;> omega
        · refine aw_iload d_M_ringOf_24 rfl ?_
          refine aw_goto (tgt := 30) d_M_ringOf_26 (by decide) ?_
          refine aw_is (y := nI (if o < le then o else le)) ?_ ?_
          · first
              | (rw [if_neg (Nat.not_lt.mpr ((nI_leI (by omega) (by omega)).mp c21))])
              | (rw [if_pos (Nat.not_le.mp (fun q => c21 ((nI_leI (by omega) (by omega)).mpr q)))])
          refine aw_istore_n (L' := [some (.ref A), some (.int (nI fr)), some (.int (nI a)), some (.int (nI (if o < le then o else le))), some (.int (nI c)), some (.int (nI o))]) d_M_ringOf_30 ⟨by decide, rfl⟩ rfl ?_
          refine aw_iinc (v := nI (c + 1)) (L' := [some (.ref A), some (.int (nI fr)), some (.int (nI a)), some (.int (nI (if o < le then o else le))), some (.int (nI (c + 1))), some (.int (nI o))]) d_M_ringOf_31 rfl (nI_1 _) ⟨by decide, rfl⟩ rfl ?_
          refine aw_aload_n d_M_ringOf_34 rfl ?_
          refine aw_iload_n d_M_ringOf_35 rfl ?_
          refine aw_iload d_M_ringOf_36 rfl ?_
          refine aw_iadd d_M_ringOf_38 ?_
          rw [nI_add]
          refine aw_ialoadN d_M_ringOf_39 hA (by omega) hN ?_
          refine aw_topi (fun v40 ev40 => ?_)
          refine aw_istore (L' := [some (.ref A), some (.int (nI fr)), some (.int (nI a)), some (.int (nI (if o < le then o else le))), some (.int (nI (c + 1))), some (.int v40)]) d_M_ringOf_40 ⟨by decide, rfl⟩ rfl ?_
          refine aw_goto (tgt := 12) d_M_ringOf_42 (by decide) ?_
          have e3 : ¬ o = a := fun z => c15 (by rw [z])
          rw [rno, if_neg e3] at e2
          rw [rch, Bool.or_eq_true, beq_iff_eq] at e1
          have e5 := hg o ho
          first
            | (rw [ev40, e5])
            | (rw [ev40', e5])
          refine ih (t o) _ (c + 1) (ht.in hn hf ho) ?_ (e1.resolve_left e3) e2
          split <;> omega

  refine aw_iload_n d_M_ringOf_0 rfl ?_
  refine aw_istore_n (L' := [some (.ref A), some (.int (nI fr)), some (.int (nI a)), some (.int (nI a)), none, none]) d_M_ringOf_1 ⟨by decide, rfl⟩ rfl ?_
  refine aw_iconst (v := nI 1) d_M_ringOf_2 (by decide) ?_
  refine aw_istore (L' := [some (.ref A), some (.int (nI fr)), some (.int (nI a)), some (.int (nI a)), some (.int (nI 1)), none]) d_M_ringOf_3 ⟨by decide, rfl⟩ rfl ?_
  refine aw_aload_n d_M_ringOf_5 rfl ?_
  refine aw_iload_n d_M_ringOf_6 rfl ?_
  refine aw_iload_n d_M_ringOf_7 rfl ?_
  refine aw_iadd d_M_ringOf_8 ?_
  rw [nI_add]
  refine aw_ialoadN d_M_ringOf_9 hA (by omega) hN ?_
  refine aw_topi (fun v10 ev10 => ?_)
  refine aw_istore (L' := [some (.ref A), some (.int (nI fr)), some (.int (nI a)), some (.int (nI a)), some (.int (nI 1)), some (.int v10)]) d_M_ringOf_10 ⟨by decide, rfl⟩ rfl ?_
  rw [ev10, hg a ha]
  exact loop 5 (t a) a 1 (ht.in hn hf ha) (by omega) r1 r2
