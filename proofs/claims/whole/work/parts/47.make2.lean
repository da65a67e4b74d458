def sw (t : Nat → Nat) (i j : Nat) : Nat → Nat := ud (ud t i (t j)) j (t i)
theorem sw_eq (t : Nat → Nat) (i j : Nat) : sw t i j = fun k => if k = i then t j else if k = j then t i else t k := by
  funext k
  unfold sw
  by_cases e : k = j
  · subst e
    rw [ud_s]
    by_cases e2 : k = i
    · subst e2; rw [if_pos rfl]
    · rw [if_neg e2, if_pos rfl]
  · rw [ud_n e]
    by_cases e2 : k = i
    · subst e2; rw [ud_s, if_pos rfl]
    · rw [ud_n e2, if_neg e2, if_neg e]
theorem sw_lt {t : Nat → Nat} {i j n : Nat} (hi : i < 6) (hj : j < 6) (h : ∀ k, k < 6 → t k < n) : ∀ k, k < 6 → sw t i j k < n := by
  intro k hk
  unfold sw
  by_cases e : k = j
  · subst e; rw [ud_s]; exact h i hi
  · rw [ud_n e]
    by_cases e2 : k = i
    · subst e2; rw [ud_s]; exact h j hj
    · rw [ud_n e2]; exact h k hk
theorem ud_lt {t : Nat → Nat} {i v n : Nat} (hv : v < n) (h : ∀ k, k < 6 → t k < n) : ∀ k, k < 6 → ud t i v k < n := by
  intro k hk
  by_cases e : k = i
  · subst e; rw [ud_s]; exact hv
  · rw [ud_n e]; exact h k hk
theorem c_at {m : Nat} {h : ab_H} {t : Nat → Nat} (ht : ∀ k, k < 6 → t k < 8) {k : Nat} (hk : k < 6) : ab_D Y_Rows_at [.int (nI (pk t)), .int (nI k)] m h (some (.int (nI (t k)))) m h := by
  have e := c_Rows_at (m := m) (h := h) (nI (pk t)) (nI k)
  rw [at_pk ht hk] at e
  exact e
theorem c_with {m : Nat} {h : ab_H} {t : Nat → Nat} (ht : ∀ k, k < 6 → t k < 8) {k v : Nat} (hk : k < 6) (hv : v < 8) : ab_D Y_Rows_with [.int (nI (pk t)), .int (nI k), .int (nI v)] m h (some (.int (nI (pk (ud t k v))))) m h := by
  have e := c_Rows_with (m := m) (h := h) (nI (pk t)) (nI k) (nI v)
  rw [wi_pk ht hk hv] at e
  exact e
theorem c_swapped {m : Nat} {h : ab_H} {t : Nat → Nat} (ht : ∀ k, k < 6 → t k < 8) {i j : Nat} (hi : i < 6) (hj : j < 6) : ab_D Y_Rows_swapped [.int (nI (pk t)), .int (nI i), .int (nI j)] m h (some (.int (nI (pk (sw t i j))))) m (h) := by
  refine ab_C.of (L := [some (.int (nI (pk t))), some (.int (nI i)), some (.int (nI j))]) rfl rfl (Nat.le_of_ble_eq_true rfl) (fun l => ?_)
  refine aw_iload_n d_Rows_swapped_0 rfl ?_
  refine aw_iload_n d_Rows_swapped_1 rfl ?_
  refine aw_iload_n d_Rows_swapped_2 rfl ?_
  refine aw_iload_n d_Rows_swapped_3 rfl ?_
  refine aw_s0i d_Rows_swapped_4 k_Rows_16 ok_Rows_at rfl ⟨rfl, rfl⟩ (c_at ht hj) rfl rfl (Nat.le_of_ble_eq_true rfl) ?_
  refine aw_s0i d_Rows_swapped_7 k_Rows_12 ok_Rows_with rfl ⟨rfl, rfl⟩ (c_with ht hi (ht j hj)) rfl rfl (Nat.le_of_ble_eq_true rfl) ?_
  refine aw_iload_n d_Rows_swapped_10 rfl ?_
  refine aw_iload_n d_Rows_swapped_11 rfl ?_
  refine aw_iload_n d_Rows_swapped_12 rfl ?_
  refine aw_s0i d_Rows_swapped_13 k_Rows_16 ok_Rows_at rfl ⟨rfl, rfl⟩ (c_at ht hi) rfl rfl (Nat.le_of_ble_eq_true rfl) ?_
  refine aw_s0i d_Rows_swapped_16 k_Rows_12 ok_Rows_with rfl ⟨rfl, rfl⟩ (c_with (ud_lt (ht j hj) ht) hj (ht i hi)) rfl rfl (Nat.le_of_ble_eq_true rfl) ?_
  refine aw_ireturn d_Rows_swapped_19 rfl rfl ?_
  exact ⟨rfl, rfl, rfl⟩
/-- gather with another room -/
abbrev Yg (d : Nat) : ab_Y := (Y_Days_gather.1, Y_Days_gather.2.1, Y_Days_gather.2.2.1, Y_Days_gather.2.2.2.1, ab_rm d 0 0)
theorem gf_of {d : Nat} {Y' : ab_Y} (h1 : Y'.2.2.2.2.frames + 1 ≤ d + 1) (h2 : 8 + (Y'.2.2.1 + 11) + Y'.2.2.2.2.locals ≤ 64 * (d + 1)) : ab_fit (Yg d) Y' = true := by
  unfold ab_fit
  rw [Bool.and_eq_true, decide_eq_true_eq, decide_eq_true_eq]
  exact ⟨h1, h2⟩
theorem gf_at (d : Nat) : ab_fit (Yg (d + 2)) Y_Rows_at = true := gf_of (show 1 + 1 ≤ d + 2 + 1 by omega) (show 8 + (2 + 11) + 64 * 1 ≤ 64 * (d + 2 + 1) by omega)
theorem gf_sw (d : Nat) : ab_fit (Yg (d + 2)) Y_Rows_swapped = true := gf_of (show 2 + 1 ≤ d + 2 + 1 by omega) (show 8 + (3 + 11) + 64 * 2 ≤ 64 * (d + 2 + 1) by omega)
theorem gf_g (d : Nat) : ab_fit (Yg (d + 1)) (Yg d) = true := gf_of (show d + 1 + 1 ≤ d + 1 + 1 by omega) (show 8 + (6 + 11) + 64 * (d + 1) ≤ 64 * (d + 1 + 1) by omega)
def mg (f p : Nat) (t : Nat → Nat) : List Nat := (mt_go f p t).map pk
/-- what is gathered of p with those below q -/
def mgq (f p : Nat) (t : Nat → Nat) (q : Nat) : List Nat := mg f (p + 1) t ++ ((List.range q).filter (fun q => p < q && t q == q)).flatMap (fun q => mg f (p + 1) (sw t p q))
theorem mgq_0 (f p : Nat) (t : Nat → Nat) : mgq f p t (p + 1) = mg f (p + 1) t := by
  unfold mgq
  rw [List.filter_eq_nil_iff.mpr]
  · simp
  · intro a ha
    have := List.mem_range.mp ha
    simp only [Bool.and_eq_true, decide_eq_true_eq, not_and]
    intro; omega
theorem mgq_s (f p : Nat) (t : Nat → Nat) {q : Nat} (hq : p < q) : mgq f p t (q + 1) = if t q = q then mgq f p t q ++ mg f (p + 1) (sw t p q) else mgq f p t q := by
  unfold mgq
  rw [List.range_succ, List.filter_append, List.flatMap_append]
  by_cases e : t q = q
  · rw [if_pos e, List.append_assoc]
    simp [hq, e]
  · rw [if_neg e]
    simp [e]
theorem mg_s {f p : Nat} {t : Nat → Nat} (hp : t p = p) : mg (f + 1) p t = mgq f p t 6 := by
  unfold mgq mg
  simp only [mt_go, hp, if_true, List.map_append, List.map_flatMap]
  simp only [sw_eq, hp]
theorem mg_n {f p : Nat} {t : Nat → Nat} (hp : ¬ t p = p) : mg (f + 1) p t = mg f (p + 1) t := by
  unfold mg
  simp only [mt_go, hp, if_false, List.append_nil]
theorem mg_pos : ∀ (f p : Nat) (t : Nat → Nat), 0 < (mg f p t).length
  | 0, _, _ => by simp [mg, mt_go]
  | f + 1, p, t => by
    have := mg_pos f (p + 1) t
    by_cases e : t p = p
    · rw [mg_s e, mgq, List.length_append]; omega
    · rw [mg_n e]; exact this
theorem mgq_le (f p : Nat) (t : Nat → Nat) : ∀ k q : Nat, p < q → (mgq f p t q).length ≤ (mgq f p t (q + k)).length
  | 0, _, _ => Nat.le_refl _
  | k + 1, q, hq => by
    refine Nat.le_trans (mgq_le f p t k q hq) ?_
    rw [show q + (k + 1) = (q + k) + 1 by omega, mgq_s f p t (q := q + k) (by omega)]
    by_cases e : t (q + k) = q + k
    · rw [if_pos e, List.length_append]; omega
    · rw [if_neg e]; exact Nat.le_refl _
/-- gather(into, number, p, row): what goes on from a row comes behind so many -/
theorem c_gather : ∀ (f p number : Nat) (t : Nat → Nat) {m : Nat} {h : ab_H} {g : Nat → Int32}, p + f = 5 → (∀ k, k < 6 → t k < 6) → number + (mg f p t).length ≤ 76 → h 48 = .inl (76, g) → ab_C (Yg (f + 4)) [.ref 48, .int (nI number), .int (nI p), .int (nI (pk t))] m h (fun r m2 h2 => r = some (.int (nI (number + (mg f p t).length))) ∧ m2 = m ∧ ∃ g2 : Nat → Int32, h2 = ab_set h 48 (.inl (76, g2)) ∧ (∀ k, k < number → g2 k = g k) ∧ ∀ k, k < (mg f p t).length → g2 (number + k) = nI ((mg f p t).getD k 0)) := by
  intro f
  induction f with
  | zero =>
    intro p number t m h g hp ht hn hg
    have hp5 : p = 5 := by omega
    subst hp5
    have hl : (mg 0 5 t).length = 1 := rfl
    rw [hl] at hn
    refine ab_C.of (L := [some (.ref 48), some (.int (nI number)), some (.int (nI 5)), some (.int (nI (pk t))), none, none]) rfl rfl (Nat.le_of_ble_eq_true rfl) (fun l => ?_)
    refine aw_iload_n d_Days_gather_0 rfl ?_
    refine aw_bipush (v := nI 6) d_Days_gather_1 (by decide) ?_
    refine aw_icmp_ge (tgt := 12) d_Days_gather_3 (by decide) (fun c3 => ?_) (fun c3 => ?_)
    · exact absurd c3 (by decide)
    · refine aw_iload_n d_Days_gather_6 rfl ?_
      refine aw_bipush (v := nI 76) d_Days_gather_7 (by decide) ?_
      refine aw_icmp_lt (tgt := 14) d_Days_gather_9 (by decide) (fun c9 => ?_) (fun c9 => ?_)
      · refine aw_iload_n d_Days_gather_14 rfl ?_
        refine aw_iconst (v := nI 5) d_Days_gather_15 (by decide) ?_
        refine aw_icmp_ne (tgt := 27) d_Days_gather_16 (by decide) (fun c16 => ?_) (fun c16 => ?_)
        · exact absurd rfl c16
        · refine aw_aload_n d_Days_gather_19 rfl ?_
          refine aw_iload_n d_Days_gather_20 rfl ?_
          refine aw_iload_n d_Days_gather_21 rfl ?_
          refine aw_iastoreN d_Days_gather_22 hg (by omega) (by decide) ?_
          refine aw_iload_n d_Days_gather_23 rfl ?_
          refine aw_iconst (v := nI 1) d_Days_gather_24 (by decide) ?_
          refine aw_iadd d_Days_gather_25 ?_
          refine aw_ireturn d_Days_gather_26 rfl rfl ?_
          refine ⟨by rw [nI_add]; rfl, rfl, _, rfl, fun k hk => pk_un (by omega), fun k hk => ?_⟩
          have hk0 : k = 0 := by rw [hl] at hk; omega
          subst hk0
          exact pk_us
      · exact absurd (nI_lt (by omega) (by decide)) c9
  | succ f ih =>
    intro p number t m h g hp ht hn hg
    have ht8 : ∀ k, k < 6 → t k < 8 := fun k hk => Nat.lt_trans (ht k hk) (by decide)
    have hpos := mg_pos f (p + 1) t
    have hle : (mg f (p + 1) t).length ≤ (mg (f + 1) p t).length := by
      by_cases e : t p = p
      · rw [mg_s e, mgq, List.length_append]; omega
      · rw [mg_n e]; exact Nat.le_refl _
    refine ab_C.of (L := [some (.ref 48), some (.int (nI number)), some (.int (nI p)), some (.int (nI (pk t))), none, none]) rfl rfl (Nat.le_of_ble_eq_true rfl) (fun l => ?_)
    have loop : ∀ k q (g2 : Nat → Int32), q + k = 6 → p < q → t p = p → (∀ k, k < number → g2 k = g k) → (∀ k, k < (mgq f p t q).length → g2 (number + k) = nI ((mgq f p t q).getD k 0)) → ab_W (Yg (f + 1 + 4)) none l (fun r m2 h2 => r = some (.int (nI (number + (mg (f + 1) p t).length))) ∧ m2 = m ∧ ∃ g2 : Nat → Int32, h2 = ab_set h 48 (.inl (76, g2)) ∧ (∀ k, k < number → g2 k = g k) ∧ ∀ k, k < (mg (f + 1) p t).length → g2 (number + k) = nI ((mg (f + 1) p t).getD k 0)) 43 [some (.ref 48), some (.int (nI number)), some (.int (nI p)), some (.int (nI (pk t))), some (.int (nI (number + (mgq f p t q).length))), some (.int (nI (q)))] [] m (ab_set h 48 (.inl (76, g2))) (0, 0) := by
      intro k
      induction k with
      | zero =>
        intro q g2 hq hpq hpp e1 e2
        have hq6 : q = 6 := by omega
        subst hq6
        refine aw_iload d_Days_gather_43 rfl ?_
        refine aw_bipush (v := nI 6) d_Days_gather_45 (by decide) ?_
        refine aw_icmp_ge (tgt := 94) d_Days_gather_47 (by decide) (fun c47 => ?_) (fun c47 => ?_)
        · refine aw_iload d_Days_gather_94 rfl ?_
          refine aw_ireturn d_Days_gather_96 rfl rfl ?_
          rw [mg_s hpp]
          exact ⟨rfl, rfl, g2, rfl, e1, e2⟩
        · exact absurd (Int32.le_refl _) c47
      | succ k ih2 =>
        intro q g2 hq hpq hpp e1 e2
        have hlen : (mgq f p t (q + 1)).length ≤ (mg (f + 1) p t).length := by
          rw [mg_s hpp]
          have := mgq_le f p t k (q + 1) (by omega)
          rw [show q + 1 + k = 6 by omega] at this
          exact this
        have hms := mgq_s f p t hpq
        refine aw_iload d_Days_gather_43 rfl ?_
        refine aw_bipush (v := nI 6) d_Days_gather_45 (by decide) ?_
        refine aw_icmp_ge (tgt := 94) d_Days_gather_47 (by decide) (fun c47 => ?_) (fun c47 => ?_)
        · exact absurd c47 (nI_ge (by omega) (by decide))
        · refine aw_iload_n d_Days_gather_50 rfl ?_
          refine aw_iload_n d_Days_gather_51 rfl ?_
          refine aw_s0i d_Days_gather_52 k_Days_25 ok_Rows_at (gf_at _) ⟨rfl, rfl⟩ (c_at ht8 (show p < 6 by omega)) rfl rfl (Nat.le_of_ble_eq_true rfl) ?_
          refine aw_iload_n d_Days_gather_55 rfl ?_
          refine aw_icmp_ne (tgt := 94) d_Days_gather_56 (by decide) (fun c56 => ?_) (fun c56 => ?_)
          · exact absurd (by rw [hpp]) c56
          · refine aw_iload_n d_Days_gather_59 rfl ?_
            refine aw_iload d_Days_gather_60 rfl ?_
            refine aw_s0i d_Days_gather_62 k_Days_25 ok_Rows_at (gf_at _) ⟨rfl, rfl⟩ (c_at ht8 (show q < 6 by omega)) rfl rfl (Nat.le_of_ble_eq_true rfl) ?_
            refine aw_iload d_Days_gather_65 rfl ?_
            refine aw_icmp_ne (tgt := 88) d_Days_gather_67 (by decide) (fun c67 => ?_) (fun c67 => ?_)
            · refine aw_iinc (v := nI (q + 1)) (L' := [some (.ref 48), some (.int (nI number)), some (.int (nI p)), some (.int (nI (pk t))), some (.int (nI (number + (mgq f p t q).length))), some (.int (nI (q + 1)))]) d_Days_gather_88 rfl (nI_1 _) ⟨Nat.le_of_ble_eq_true rfl, rfl⟩ rfl ?_
              refine aw_goto (tgt := 43) d_Days_gather_91 (by decide) ?_
              first
                | (refine ih2 (q + 1) g3 (by omega) (by omega) hpp (fun k hk => (f1 k (by omega)).trans (e1 k hk)) (fun k hk => ?_)
                   rw [hms]
                   rw [hl3] at hk
                   by_cases hk2 : k < (mgq f p t q).length
                   · rw [f1 _ (by omega), e2 k hk2, List.getD_eq_getElem?_getD, List.getD_eq_getElem?_getD, List.getElem?_append_left hk2]
                   · have e9 := f2 (k - (mgq f p t q).length) (by omega)
                     rw [show number + (mgq f p t q).length + (k - (mgq f p t q).length) = number + k by omega] at e9
                     rw [e9, List.getD_eq_getElem?_getD, List.getD_eq_getElem?_getD, List.getElem?_append_right (by omega)])
                | (have hqq : ¬ t q = q := fun z => c67 (by rw [z])
                   rw [if_neg hqq] at hms
                   rw [← hms] at e2 ⊢
                   exact ih2 (q + 1) g2 (by omega) (by omega) hpp e1 e2)
            · refine aw_aload_n d_Days_gather_70 rfl ?_
              refine aw_iload d_Days_gather_71 rfl ?_
              refine aw_iload_n d_Days_gather_73 rfl ?_
              refine aw_iconst (v := nI 1) d_Days_gather_74 (by decide) ?_
              refine aw_iadd d_Days_gather_75 ?_
              rw [nI_add]
              refine aw_iload_n d_Days_gather_76 rfl ?_
              refine aw_iload_n d_Days_gather_77 rfl ?_
              refine aw_iload d_Days_gather_78 rfl ?_
              refine aw_s0i d_Days_gather_80 k_Days_29 ok_Rows_swapped (gf_sw _) ⟨rfl, rfl⟩ (c_swapped ht8 (show p < 6 by omega) (show q < 6 by omega)) rfl rfl (Nat.le_of_ble_eq_true rfl) ?_
              have hqq : t q = q := (nI_eq (Nat.lt_trans (ht q (by omega)) (by decide)) (by omega)).mp c67
              rw [if_pos hqq] at hms
              have hl3 : (mgq f p t (q + 1)).length = (mgq f p t q).length + (mg f (p + 1) (sw t p q)).length := by rw [hms, List.length_append]
              refine aw_s0 (Y' := Yg (f + 4)) d_Days_gather_83 k_Days_21 ok_Days_gather (gf_g (f + 4)) ⟨rfl, rfl⟩ (ih (p + 1) (number + (mgq f p t q).length) (sw t p q) (m := m) (h := ab_set h 48 (.inl (76, g2))) (g := g2) (by omega) (sw_lt (by omega) (by omega) ht) (by omega) rfl) rfl rfl (Nat.le_of_ble_eq_true rfl) (fun r m2 h2 q9 => ?_)
              obtain ⟨rfl, rfl, g3, rfl, f1, f2⟩ := q9
              show ab_W _ _ _ _ 86 _ [.int (nI (number + (mgq f p t q).length + (mg f (p + 1) (sw t p q)).length))] _ _ _
              rw [Nat.add_assoc number, ← hl3, ab_set_set]
              refine aw_istore (L' := [some (.ref 48), some (.int (nI number)), some (.int (nI p)), some (.int (nI (pk t))), some (.int (nI (number + (mgq f p t (q + 1)).length))), some (.int (nI q))]) d_Days_gather_86 ⟨Nat.le_of_ble_eq_true rfl, rfl⟩ rfl ?_
              refine aw_iinc (v := nI (q + 1)) (L' := [some (.ref 48), some (.int (nI number)), some (.int (nI p)), some (.int (nI (pk t))), some (.int (nI (number + (mgq f p t (q + 1)).length))), some (.int (nI (q + 1)))]) d_Days_gather_88 rfl (nI_1 _) ⟨Nat.le_of_ble_eq_true rfl, rfl⟩ rfl ?_
              refine aw_goto (tgt := 43) d_Days_gather_91 (by decide) ?_
              first
                | (refine ih2 (q + 1) g3 (by omega) (by omega) hpp (fun k hk => (f1 k (by omega)).trans (e1 k hk)) (fun k hk => ?_)
                   rw [hms]
                   rw [hl3] at hk
                   by_cases hk2 : k < (mgq f p t q).length
                   · rw [f1 _ (by omega), e2 k hk2, List.getD_eq_getElem?_getD, List.getD_eq_getElem?_getD, List.getElem?_append_left hk2]
                   · have e9 := f2 (k - (mgq f p t q).length) (by omega)
                     rw [show number + (mgq f p t q).length + (k - (mgq f p t q).length) = number + k by omega] at e9
                     rw [e9, List.getD_eq_getElem?_getD, List.getD_eq_getElem?_getD, List.getElem?_append_right (by omega)])
                | (have hqq : ¬ t q = q := fun z => c67 (by rw [z])
                   rw [if_neg hqq] at hms
                   rw [← hms] at e2 ⊢
                   exact ih2 (q + 1) g2 (by omega) (by omega) hpp e1 e2)
    refine aw_iload_n d_Days_gather_0 rfl ?_
    refine aw_bipush (v := nI 6) d_Days_gather_1 (by decide) ?_
    refine aw_icmp_ge (tgt := 12) d_Days_gather_3 (by decide) (fun c3 => ?_) (fun c3 => ?_)
    · exact absurd c3 (nI_ge (by omega) (by decide))
    · refine aw_iload_n d_Days_gather_6 rfl ?_
      refine aw_bipush (v := nI 76) d_Days_gather_7 (by decide) ?_
      refine aw_icmp_lt (tgt := 14) d_Days_gather_9 (by decide) (fun c9 => ?_) (fun c9 => ?_)
      · refine aw_iload_n d_Days_gather_14 rfl ?_
        refine aw_iconst (v := nI 5) d_Days_gather_15 (by decide) ?_
        refine aw_icmp_ne (tgt := 27) d_Days_gather_16 (by decide) (fun c16 => ?_) (fun c16 => ?_)
        · refine aw_aload_n d_Days_gather_27 rfl ?_
          refine aw_iload_n d_Days_gather_28 rfl ?_
          refine aw_iload_n d_Days_gather_29 rfl ?_
          refine aw_iconst (v := nI 1) d_Days_gather_30 (by decide) ?_
          refine aw_iadd d_Days_gather_31 ?_
          rw [nI_add]
          refine aw_iload_n d_Days_gather_32 rfl ?_
          refine aw_s0 (Y' := Yg (f + 4)) d_Days_gather_33 k_Days_21 ok_Days_gather (gf_g (f + 4)) ⟨rfl, rfl⟩ (ih (p + 1) number t (m := m) (h := h) (g := g) (by omega) ht (by omega) hg) rfl rfl (Nat.le_of_ble_eq_true rfl) (fun r m2 h2 q9 => ?_)
          obtain ⟨rfl, rfl, g1, rfl, f1, f2⟩ := q9
          show ab_W _ _ _ _ 36 _ [.int (nI (number + (mg f (p + 1) t).length))] _ _ _
          refine aw_istore (L' := [some (.ref 48), some (.int (nI number)), some (.int (nI p)), some (.int (nI (pk t))), some (.int (nI (number + (mg f (p + 1) t).length))), none]) d_Days_gather_36 ⟨Nat.le_of_ble_eq_true rfl, rfl⟩ rfl ?_
          refine aw_iload_n d_Days_gather_38 rfl ?_
          refine aw_iconst (v := nI 1) d_Days_gather_39 (by decide) ?_
          refine aw_iadd d_Days_gather_40 ?_
          rw [nI_add]
          refine aw_istore (L' := [some (.ref 48), some (.int (nI number)), some (.int (nI p)), some (.int (nI (pk t))), some (.int (nI (number + (mg f (p + 1) t).length))), some (.int (nI (p + 1)))]) d_Days_gather_41 ⟨Nat.le_of_ble_eq_true rfl, rfl⟩ rfl ?_
          by_cases hpp : t p = p
          · have lp := loop (5 - p) (p + 1) g1 (by omega) (by omega) hpp f1 (by rw [mgq_0]; exact f2)
            rw [mgq_0] at lp
            exact lp
          refine aw_iload d_Days_gather_43 rfl ?_
          refine aw_bipush (v := nI 6) d_Days_gather_45 (by decide) ?_
          refine aw_icmp_ge (tgt := 94) d_Days_gather_47 (by decide) (fun c47 => ?_) (fun c47 => ?_)
          · refine aw_iload d_Days_gather_94 rfl ?_
            refine aw_ireturn d_Days_gather_96 rfl rfl ?_
            rw [mg_n hpp]
            exact ⟨rfl, rfl, g1, rfl, f1, f2⟩
          · refine aw_iload_n d_Days_gather_50 rfl ?_
            refine aw_iload_n d_Days_gather_51 rfl ?_
            refine aw_s0i d_Days_gather_52 k_Days_25 ok_Rows_at (gf_at _) ⟨rfl, rfl⟩ (c_at ht8 (show p < 6 by omega)) rfl rfl (Nat.le_of_ble_eq_true rfl) ?_
            refine aw_iload_n d_Days_gather_55 rfl ?_
            refine aw_icmp_ne (tgt := 94) d_Days_gather_56 (by decide) (fun c56 => ?_) (fun c56 => ?_)
            · refine aw_iload d_Days_gather_94 rfl ?_
              refine aw_ireturn d_Days_gather_96 rfl rfl ?_
              rw [mg_n hpp]
              exact ⟨rfl, rfl, g1, rfl, f1, f2⟩
            · exact absurd ((nI_eq (Nat.lt_trans (ht p (by omega)) (by decide)) (by omega)).mp c56) hpp
        · exact absurd ((nI_eq (by omega) (by decide)).mp c16) (by omega)
      · exact absurd (nI_lt (by omega) (by decide)) c9
