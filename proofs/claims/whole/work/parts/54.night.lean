theorem b_all {n : Nat} (hn : n ≤ 6) : nI 1 <<< (nI n &&& 31) - nI 1 = nI (2 ^ n - 1) := by
  revert n
  decide +kernel
theorem b_andn : ∀ a, a < 64 → ∀ b, b < 64 → nI a &&& (nI b ^^^ (-1)) = nI (a &&& (63 ^^^ b)) := by decide +kernel
theorem b_tb (s p : Nat) : s / 2 ^ p % 2 = 1 ↔ s.testBit p = true := by
  rw [Nat.testBit_eq_decide_div_mod_eq, decide_eq_true_eq]
theorem b_and (a b p : Nat) : (a &&& b) / 2 ^ p % 2 = 1 ↔ a / 2 ^ p % 2 = 1 ∧ b / 2 ^ p % 2 = 1 := by
  rw [b_tb, b_tb, b_tb, Nat.testBit_and, Bool.and_eq_true]
theorem b_orr (a b p : Nat) : (a ||| b) / 2 ^ p % 2 = 1 ↔ a / 2 ^ p % 2 = 1 ∨ b / 2 ^ p % 2 = 1 := by
  rw [b_tb, b_tb, b_tb, Nat.testBit_or, Bool.or_eq_true]
theorem b_pow (q p : Nat) : 2 ^ q / 2 ^ p % 2 = 1 ↔ q = p := by
  rw [b_tb, Nat.testBit_two_pow, decide_eq_true_eq]
theorem b_low (n p : Nat) : (2 ^ n - 1) / 2 ^ p % 2 = 1 ↔ p < n := by
  rw [b_tb, Nat.testBit_two_pow_sub_one, decide_eq_true_eq]
theorem b_not (b : Nat) {p : Nat} (hp : p < 6) : (63 ^^^ b) / 2 ^ p % 2 = 1 ↔ ¬ b / 2 ^ p % 2 = 1 := by
  rw [b_tb, b_tb, Nat.testBit_xor, show (63 : Nat) = 2 ^ 6 - 1 from rfl, Nat.testBit_two_pow_sub_one, decide_eq_true hp]
  cases b.testBit p <;> simp
theorem b_zero (p : Nat) : ¬ 0 / 2 ^ p % 2 = 1 := by simp
theorem b_ext {a b : Nat} (ha : a < 64) (hb : b < 64) (h : ∀ p, p < 6 → (a / 2 ^ p % 2 = 1 ↔ b / 2 ^ p % 2 = 1)) : a = b := by
  apply Nat.eq_of_testBit_eq
  intro i
  by_cases hi : i < 6
  · have := h i hi
    rw [b_tb, b_tb] at this
    exact Bool.eq_iff_iff.mpr this
  · rw [Nat.testBit_lt_two_pow (Nat.lt_of_lt_of_le (show a < 2 ^ 6 from ha) (Nat.pow_le_pow_right (by decide) (by omega))), Nat.testBit_lt_two_pow (Nat.lt_of_lt_of_le (show b < 2 ^ 6 from hb) (Nat.pow_le_pow_right (by decide) (by omega)))]
theorem b_63 (n : Nat) (hn : n ≤ 6) : 2 ^ n - 1 < 64 := by
  have : 2 ^ n ≤ 2 ^ 6 := Nat.pow_le_pow_right (by decide) hn
  omega
theorem pop_le (s : Nat) : pop s ≤ 6 := by unfold pop; omega
/-- how many have another's -/
def ast (t : Nat → Nat) (n : Nat) : Nat := fb_ct (fun p => decide (¬ t p = p)) n
/-- how many rings of more than one -/
def rgs (t : Nat → Nat) (n : Nat) : Nat := fb_ct (fun p => decide (tz (rg t p) = p ∧ 1 < pop (rg t p))) n
/-- how many the greatest has -/
def rgm (t : Nat → Nat) : Nat → Nat
  | 0 => 0
  | p + 1 => if rgm t p < pop (rg t p) then pop (rg t p) else rgm t p
/-- the coats of those who won't -/
def whd (w : Nat) (t : Nat → Nat) : Nat → Nat
  | 0 => 0
  | p + 1 => if w / 2 ^ p % 2 = 1 then whd w t p ||| 2 ^ t p else whd w t p
/-- those who must have their own -/
def bnd (n w : Nat) (t : Nat → Nat) : Nat := ((2 ^ n - 1) &&& (63 ^^^ w)) &&& (63 ^^^ whd w t n)
theorem whd_lt (w : Nat) {t : Nat → Nat} (ht : Pm t) : ∀ p, p ≤ 6 → whd w t p < 64
  | 0, _ => (show 0 < 64 by decide)
  | p + 1, hp => by
    have ih := whd_lt w ht p (by omega)
    unfold whd
    split
    · exact b_or (k := 6) ih (p6_lt (ht.1 p (by omega)))
    · exact ih
theorem whd_bit (w : Nat) {t : Nat → Nat} (q : Nat) : ∀ p, whd w t p / 2 ^ q % 2 = 1 ↔ ∃ r, r < p ∧ w / 2 ^ r % 2 = 1 ∧ t r = q
  | 0 => ⟨fun h => absurd h (b_zero q), fun ⟨r, h, _⟩ => absurd h (Nat.not_lt_zero _)⟩
  | p + 1 => by
    have ih := whd_bit w (t := t) q p
    unfold whd
    by_cases e : w / 2 ^ p % 2 = 1
    · rw [if_pos e, b_orr, b_pow, ih]
      refine ⟨fun h => ?_, fun ⟨r, h1, h2, h3⟩ => ?_⟩
      · rcases h with ⟨r, h1, h2, h3⟩ | h
        · exact ⟨r, by omega, h2, h3⟩
        · exact ⟨p, by omega, e, h⟩
      · by_cases q2 : r = p
        · subst q2; exact Or.inr h3
        · exact Or.inl ⟨r, by omega, h2, h3⟩
    · rw [if_neg e, ih]
      refine ⟨fun ⟨r, h1, h2, h3⟩ => ⟨r, by omega, h2, h3⟩, fun ⟨r, h1, h2, h3⟩ => ⟨r, ?_, h2, h3⟩⟩
      by_cases q2 : r = p
      · subst q2; exact absurd h2 e
      · omega
theorem and_63 {a b : Nat} (ha : a < 64) : a &&& b < 64 := Nat.lt_of_le_of_lt Nat.and_le_left ha
theorem xor_63 {b : Nat} (hb : b < 64) : 63 ^^^ b < 64 := Nat.xor_lt_two_pow (n := 6) (by decide) hb
theorem bnd_lt (n w : Nat) (t : Nat → Nat) (hn : n ≤ 6) : bnd n w t < 64 := and_63 (and_63 (b_63 n hn))
theorem bnd_bit {n w : Nat} {t : Nat → Nat} (hn : n ≤ 6) (hf : ∀ k, n ≤ k → t k = k) (ht : Pm t) {p : Nat} (hp : p < 6) : bnd n w t / 2 ^ p % 2 = 1 ↔ p < n ∧ ¬ w / 2 ^ p % 2 = 1 ∧ ¬ w / 2 ^ (iv t p) % 2 = 1 := by
  obtain ⟨i1, i2, i3⟩ := iv_t ht hp
  unfold bnd
  rw [b_and, b_and, b_low, b_not _ hp, b_not _ hp, whd_bit]
  refine ⟨fun ⟨⟨h1, h2⟩, h3⟩ => ⟨h1, h2, fun q => h3 ⟨iv t p, iv_in ht hn hf h1, q, i1⟩⟩, fun ⟨h1, h2, h3⟩ => ⟨⟨h1, h2⟩, fun ⟨r, q1, q2, q3⟩ => ?_⟩⟩
  have : iv t p = r := by rw [← q3]; exact (iv_t ht (by omega)).2.2
  rw [this] at h3
  exact h3 q2
theorem rgm_le (t : Nat → Nat) : ∀ p, rgm t p ≤ 6
  | 0 => Nat.zero_le _
  | p + 1 => by
    unfold rgm
    split
    · exact pop_le _
    · exact rgm_le t p
/-- what isn't looked at any more in a local may be forgotten -/
theorem ab_L.forget {G : ab_G} {ls : Array Slot} {n : Nat} {L : List (Option Value)} (i : Nat) (h : ab_L G ls n L) : ab_L G ls n (L.set i none) := by
  refine ⟨h.1, by rw [List.length_set]; exact h.2.1, h.2.2.1, fun j v hj => h.2.2.2 j v ?_⟩
  by_cases e : i = j
  · subst e
    by_cases q : i < L.length
    · rw [List.getElem?_set_self q] at hj
      cases hj
    · rw [List.getElem?_eq_none (by rw [List.length_set]; omega)] at hj
      cases hj
  · rw [List.getElem?_set_ne e] at hj
    exact hj
theorem aw_drop {Y : ab_Y} {X : ab_X} {l : Launch} {Q : Option Value → Nat → ab_H → Prop} {pc : Nat} {L : List (Option Value)} {st : List Value} {m : Nat} {h : ab_H} {us : Nat × Nat} (i : Nat) (k : ab_W Y X l Q pc (L.set i none) st m h us) : ab_W Y X l Q pc L st m h us :=
  fun G p e s mi args below meth c H locs ls Z C hL hP hS h1 h2 hF => k G p e s mi args below meth c H locs ls Z C (hL.forget i) hP hS h1 h2 hF
theorem c_all2 {m : Nat} {h : ab_H} {n : Nat} {tb wo : Int32} {ns ra se : Nat} {me mi : Int32} {fe : Nat} (hN : h 2 = oN 2 n tb wo ns ra se me mi fe) (hn : n ≤ 6) : ab_D Y_Night_all [.ref 2] m h (some (.int (nI (2 ^ n - 1)))) m (h) := by
  refine ab_C.of (L := [some (.ref 2)]) rfl rfl (Nat.le_of_ble_eq_true rfl) (fun l => ?_)
  refine aw_iconst (v := nI 1) d_Night_all_0 (by decide) ?_
  refine aw_aload_n d_Night_all_1 rfl ?_
  refine aw_get (k := 0) d_Night_all_2 cl_Night k_Night_55 (by decide) hN rfl ?_
  refine aw_ishl d_Night_all_5 ?_
  refine aw_iconst (v := nI 1) d_Night_all_6 (by decide) ?_
  refine aw_isub d_Night_all_7 ?_
  refine aw_ireturn d_Night_all_8 rfl rfl ?_
  exact ⟨by rw [b_all hn], rfl, rfl⟩
theorem c_astray {m : Nat} {h : ab_H} {n : Nat} {t : Nat → Nat} {w ns ra se : Nat} {me mi : Int32} {fe : Nat} (hN : h 2 = oN 2 n (nI (pk t)) (nI w) ns ra se me mi fe) (hn : n ≤ 6) (ht : Pm t) : ab_D Y_Night_astray [.ref 2] m h (some (.int (nI (ast t n)))) m (h) := by
  refine ab_C.of (L := [some (.ref 2), none, none]) rfl rfl (Nat.le_of_ble_eq_true rfl) (fun l => ?_)
  have loop : ∀ k j, j + k = n → ab_W Y_Night_astray none l (fun r m2 h2 => r = some (.int (nI (ast t n))) ∧ m2 = m ∧ h2 = h) 4 [some (.ref 2), some (.int (nI (ast t j))), some (.int (nI j))] [] m (h) (0, 0) := by
    intro k
    induction k with
    | zero =>
      intro j  hj
      have hjn : j = n := by omega
      subst hjn
      refine aw_iload_n d_Night_astray_4 rfl ?_
      refine aw_aload_n d_Night_astray_5 rfl ?_
      refine aw_get (k := 0) d_Night_astray_6 cl_Night k_Night_55 (by decide) hN rfl ?_
      refine aw_icmp_ge (tgt := 33) d_Night_astray_9 (by decide) (fun c9 => ?_) (fun c9 => ?_)
      · refine aw_iload_n d_Night_astray_33 rfl ?_
        refine aw_ireturn d_Night_astray_34 rfl rfl ?_
        exact ⟨rfl, rfl, rfl⟩
      · exact absurd (Int32.le_refl _) c9
    | succ k ih =>
      intro j  hj 
      refine aw_iload_n d_Night_astray_4 rfl ?_
      refine aw_aload_n d_Night_astray_5 rfl ?_
      refine aw_get (k := 0) d_Night_astray_6 cl_Night k_Night_55 (by decide) hN rfl ?_
      refine aw_icmp_ge (tgt := 33) d_Night_astray_9 (by decide) (fun c9 => ?_) (fun c9 => ?_)
      · exact absurd c9 (nI_ge (by omega) (by omega))
      · refine aw_aload_n d_Night_astray_12 rfl ?_
        refine aw_get (k := 6) d_Night_astray_13 cl_Night k_Night_30 (by decide) hN rfl ?_
        refine aw_iload_n d_Night_astray_16 rfl ?_
        refine aw_s0i d_Night_astray_17 k_Night_85 ok_Rows_at rfl ⟨rfl, rfl⟩ (c_at ht.lt8 (show j < 6 by omega)) rfl rfl (Nat.le_of_ble_eq_true rfl) ?_
        refine aw_iload_n d_Night_astray_20 rfl ?_
        refine aw_icmp_eq (tgt := 27) d_Night_astray_21 (by decide) (fun c21 => ?_) (fun c21 => ?_)
        · refine aw_iinc (v := nI (j + 1)) (L' := [some (.ref 2), some (.int (nI (ast t j))), some (.int (nI (j + 1)))]) d_Night_astray_27 rfl (nI_1 _) ⟨by decide, rfl⟩ rfl ?_
          refine aw_goto (tgt := 4) d_Night_astray_30 (by decide) ?_
          first
            | (have e : ast t (j + 1) = ast t j + 1 := by
                 unfold ast; rw [fb_ct_succ, decide_eq_true (show ¬ t j = j from fun q => c21 (by rw [q]))]; rfl
               rw [← e]
               exact ih (j + 1) (by omega))
            | (have e : ast t (j + 1) = ast t j := by
                 unfold ast; rw [fb_ct_succ, decide_eq_false (show ¬ ¬ t j = j from fun q => q ((nI_eq (Nat.lt_trans (ht.1 j (by omega)) (by decide)) (by omega)).mp c21))]; rfl
               rw [← e]
               exact ih (j + 1) (by omega))
        · refine aw_iinc (v := nI ((ast t j) + 1)) (L' := [some (.ref 2), some (.int (nI ((ast t j) + 1))), some (.int (nI j))]) d_Night_astray_24 rfl (nI_1 _) ⟨by decide, rfl⟩ rfl ?_
          refine aw_iinc (v := nI (j + 1)) (L' := [some (.ref 2), some (.int (nI ((ast t j) + 1))), some (.int (nI (j + 1)))]) d_Night_astray_27 rfl (nI_1 _) ⟨by decide, rfl⟩ rfl ?_
          refine aw_goto (tgt := 4) d_Night_astray_30 (by decide) ?_
          first
            | (have e : ast t (j + 1) = ast t j + 1 := by
                 unfold ast; rw [fb_ct_succ, decide_eq_true (show ¬ t j = j from fun q => c21 (by rw [q]))]; rfl
               rw [← e]
               exact ih (j + 1) (by omega))
            | (have e : ast t (j + 1) = ast t j := by
                 unfold ast; rw [fb_ct_succ, decide_eq_false (show ¬ ¬ t j = j from fun q => q ((nI_eq (Nat.lt_trans (ht.1 j (by omega)) (by decide)) (by omega)).mp c21))]; rfl
               rw [← e]
               exact ih (j + 1) (by omega))
  refine aw_iconst (v := nI 0) d_Night_astray_0 (by decide) ?_
  refine aw_istore_n (L' := [some (.ref 2), some (.int (nI 0)), none]) d_Night_astray_1 ⟨by decide, rfl⟩ rfl ?_
  refine aw_iconst (v := nI 0) d_Night_astray_2 (by decide) ?_
  refine aw_istore_n (L' := [some (.ref 2), some (.int (nI 0)), some (.int (nI 0))]) d_Night_astray_3 ⟨by decide, rfl⟩ rfl ?_
  exact loop n 0 (by omega)
theorem c_rings {m : Nat} {h : ab_H} {n : Nat} {t : Nat → Nat} {w ns ra se : Nat} {me mi : Int32} {fe : Nat} (hN : h 2 = oN 2 n (nI (pk t)) (nI w) ns ra se me mi fe) (hn : n ≤ 6) (ht : Pm t) : ab_D Y_Night_rings [.ref 2] m h (some (.int (nI (rgs t n)))) m (h) := by
  refine ab_C.of (L := [some (.ref 2), none, none, none]) rfl rfl (Nat.le_of_ble_eq_true rfl) (fun l => ?_)
  have loop : ∀ k j, j + k = n → ab_W Y_Night_rings none l (fun r m2 h2 => r = some (.int (nI (rgs t n))) ∧ m2 = m ∧ h2 = h) 4 [some (.ref 2), some (.int (nI (rgs t j))), some (.int (nI j)), none] [] m (h) (0, 0) := by
    intro k
    induction k with
    | zero =>
      intro j  hj
      have hjn : j = n := by omega
      subst hjn
      refine aw_iload_n d_Night_rings_4 rfl ?_
      refine aw_aload_n d_Night_rings_5 rfl ?_
      refine aw_get (k := 0) d_Night_rings_6 cl_Night k_Night_55 (by decide) hN rfl ?_
      refine aw_icmp_ge (tgt := 46) d_Night_rings_9 (by decide) (fun c9 => ?_) (fun c9 => ?_)
      · refine aw_iload_n d_Night_rings_46 rfl ?_
        refine aw_ireturn d_Night_rings_47 rfl rfl ?_
        exact ⟨rfl, rfl, rfl⟩
      · exact absurd (Int32.le_refl _) c9
    | succ k ih =>
      intro j  hj 
      refine aw_iload_n d_Night_rings_4 rfl ?_
      refine aw_aload_n d_Night_rings_5 rfl ?_
      refine aw_get (k := 0) d_Night_rings_6 cl_Night k_Night_55 (by decide) hN rfl ?_
      refine aw_icmp_ge (tgt := 46) d_Night_rings_9 (by decide) (fun c9 => ?_) (fun c9 => ?_)
      · exact absurd c9 (nI_ge (by omega) (by omega))
      · refine aw_aload_n d_Night_rings_12 rfl ?_
        refine aw_get (k := 6) d_Night_rings_13 cl_Night k_Night_30 (by decide) hN rfl ?_
        refine aw_iload_n d_Night_rings_16 rfl ?_
        refine aw_s0i d_Night_rings_17 k_Night_92 ok_Rows_ring rfl ⟨rfl, rfl⟩ (c_ring ht (show j < 6 by omega)) rfl rfl (Nat.le_of_ble_eq_true rfl) ?_
        refine aw_istore_n (L' := [some (.ref 2), some (.int (nI (rgs t j))), some (.int (nI j)), some (.int (nI (rg t j)))]) d_Night_rings_20 ⟨by decide, rfl⟩ rfl ?_
        refine aw_iload_n d_Night_rings_21 rfl ?_
        refine aw_iload_n d_Night_rings_22 rfl ?_
        refine aw_s0i d_Night_rings_23 k_Night_95 ok_Rows_isLeast rfl ⟨rfl, rfl⟩ (c_isLeast (rg_t ht (show j < 6 by omega)).2.2.1 (show j < 6 by omega)) rfl rfl (Nat.le_of_ble_eq_true rfl) ?_
        refine aw_if_eq (tgt := 40) d_Night_rings_26 (by decide) (fun c26 => ?_) (fun c26 => ?_)
        · refine aw_iinc (v := nI (j + 1)) (L' := [some (.ref 2), some (.int (nI (rgs t j))), some (.int (nI (j + 1))), some (.int (nI (rg t j)))]) d_Night_rings_40 rfl (nI_1 _) ⟨by decide, rfl⟩ rfl ?_
          refine aw_goto (tgt := 4) d_Night_rings_43 (by decide) ?_
          obtain ⟨-, -, r3, -⟩ := rg_t ht (show j < 6 by omega)
          have pl := pop_le (rg t j)
          first
            | (have e : rgs t (j + 1) = rgs t j + 1 := by
                 unfold rgs; rw [fb_ct_succ, decide_eq_true (show tz (rg t j) = j ∧ 1 < pop (rg t j) from ⟨of_decide_eq_true (ab_bl_1.mp c26), Nat.not_le.mp fun q => c34 (nI_le q (by decide))⟩)]; rfl
               rw [← e]
               exact aw_drop 3 (ih (j + 1) (by omega)))
            | (have e : rgs t (j + 1) = rgs t j := by
                 unfold rgs; rw [fb_ct_succ, decide_eq_false (show ¬ (tz (rg t j) = j ∧ 1 < pop (rg t j)) from fun q => of_decide_eq_false (ab_bl_0.mp c26) q.1)]; rfl
               rw [← e]
               exact aw_drop 3 (ih (j + 1) (by omega)))
            | (have e : rgs t (j + 1) = rgs t j := by
                 unfold rgs; rw [fb_ct_succ, decide_eq_false (show ¬ (tz (rg t j) = j ∧ 1 < pop (rg t j)) from fun q => absurd ((nI_leI (by omega) (by decide)).mp c34) (by omega))]; rfl
               rw [← e]
               exact aw_drop 3 (ih (j + 1) (by omega)))
        · refine aw_iload_n d_Night_rings_29 rfl ?_
          refine aw_s0i d_Night_rings_30 k_Night_99 ok_JI_bitCount rfl ⟨rfl, rfl⟩ (c_bitCount _ (rg_t ht (show j < 6 by omega)).2.2.1) rfl rfl (Nat.le_of_ble_eq_true rfl) ?_
          refine aw_iconst (v := nI 1) d_Night_rings_33 (by decide) ?_
          refine aw_icmp_le (tgt := 40) d_Night_rings_34 (by decide) (fun c34 => ?_) (fun c34 => ?_)
          · refine aw_iinc (v := nI (j + 1)) (L' := [some (.ref 2), some (.int (nI (rgs t j))), some (.int (nI (j + 1))), some (.int (nI (rg t j)))]) d_Night_rings_40 rfl (nI_1 _) ⟨by decide, rfl⟩ rfl ?_
            refine aw_goto (tgt := 4) d_Night_rings_43 (by decide) ?_
            obtain ⟨-, -, r3, -⟩ := rg_t ht (show j < 6 by omega)
            have pl := pop_le (rg t j)
            first
              | (have e : rgs t (j + 1) = rgs t j + 1 := by
                   unfold rgs; rw [fb_ct_succ, decide_eq_true (show tz (rg t j) = j ∧ 1 < pop (rg t j) from ⟨of_decide_eq_true (ab_bl_1.mp c26), Nat.not_le.mp fun q => c34 (nI_le q (by decide))⟩)]; rfl
                 rw [← e]
                 exact aw_drop 3 (ih (j + 1) (by omega)))
              | (have e : rgs t (j + 1) = rgs t j := by
                   unfold rgs; rw [fb_ct_succ, decide_eq_false (show ¬ (tz (rg t j) = j ∧ 1 < pop (rg t j)) from fun q => of_decide_eq_false (ab_bl_0.mp c26) q.1)]; rfl
                 rw [← e]
                 exact aw_drop 3 (ih (j + 1) (by omega)))
              | (have e : rgs t (j + 1) = rgs t j := by
                   unfold rgs; rw [fb_ct_succ, decide_eq_false (show ¬ (tz (rg t j) = j ∧ 1 < pop (rg t j)) from fun q => absurd ((nI_leI (by omega) (by decide)).mp c34) (by omega))]; rfl
                 rw [← e]
                 exact aw_drop 3 (ih (j + 1) (by omega)))
          · refine aw_iinc (v := nI ((rgs t j) + 1)) (L' := [some (.ref 2), some (.int (nI ((rgs t j) + 1))), some (.int (nI j)), some (.int (nI (rg t j)))]) d_Night_rings_37 rfl (nI_1 _) ⟨by decide, rfl⟩ rfl ?_
            refine aw_iinc (v := nI (j + 1)) (L' := [some (.ref 2), some (.int (nI ((rgs t j) + 1))), some (.int (nI (j + 1))), some (.int (nI (rg t j)))]) d_Night_rings_40 rfl (nI_1 _) ⟨by decide, rfl⟩ rfl ?_
            refine aw_goto (tgt := 4) d_Night_rings_43 (by decide) ?_
            obtain ⟨-, -, r3, -⟩ := rg_t ht (show j < 6 by omega)
            have pl := pop_le (rg t j)
            first
              | (have e : rgs t (j + 1) = rgs t j + 1 := by
                   unfold rgs; rw [fb_ct_succ, decide_eq_true (show tz (rg t j) = j ∧ 1 < pop (rg t j) from ⟨of_decide_eq_true (ab_bl_1.mp c26), Nat.not_le.mp fun q => c34 (nI_le q (by decide))⟩)]; rfl
                 rw [← e]
                 exact aw_drop 3 (ih (j + 1) (by omega)))
              | (have e : rgs t (j + 1) = rgs t j := by
                   unfold rgs; rw [fb_ct_succ, decide_eq_false (show ¬ (tz (rg t j) = j ∧ 1 < pop (rg t j)) from fun q => of_decide_eq_false (ab_bl_0.mp c26) q.1)]; rfl
                 rw [← e]
                 exact aw_drop 3 (ih (j + 1) (by omega)))
              | (have e : rgs t (j + 1) = rgs t j := by
                   unfold rgs; rw [fb_ct_succ, decide_eq_false (show ¬ (tz (rg t j) = j ∧ 1 < pop (rg t j)) from fun q => absurd ((nI_leI (by omega) (by decide)).mp c34) (by omega))]; rfl
                 rw [← e]
                 exact aw_drop 3 (ih (j + 1) (by omega)))
  refine aw_iconst (v := nI 0) d_Night_rings_0 (by decide) ?_
  refine aw_istore_n (L' := [some (.ref 2), some (.int (nI 0)), none, none]) d_Night_rings_1 ⟨by decide, rfl⟩ rfl ?_
  refine aw_iconst (v := nI 0) d_Night_rings_2 (by decide) ?_
  refine aw_istore_n (L' := [some (.ref 2), some (.int (nI 0)), some (.int (nI 0)), none]) d_Night_rings_3 ⟨by decide, rfl⟩ rfl ?_
  exact loop n 0 (by omega)
theorem c_greatestRing {m : Nat} {h : ab_H} {n : Nat} {t : Nat → Nat} {w ns ra se : Nat} {me mi : Int32} {fe : Nat} (hN : h 2 = oN 2 n (nI (pk t)) (nI w) ns ra se me mi fe) (hn : n ≤ 6) (ht : Pm t) : ab_D Y_Night_greatestRing [.ref 2] m h (some (.int (nI (rgm t n)))) m (h) := by
  refine ab_C.of (L := [some (.ref 2), none, none]) rfl rfl (Nat.le_of_ble_eq_true rfl) (fun l => ?_)
  have loop : ∀ k j, j + k = n → ab_W Y_Night_greatestRing none l (fun r m2 h2 => r = some (.int (nI (rgm t n))) ∧ m2 = m ∧ h2 = h) 4 [some (.ref 2), some (.int (nI (rgm t j))), some (.int (nI j))] [] m (h) (0, 0) := by
    intro k
    induction k with
    | zero =>
      intro j  hj
      have hjn : j = n := by omega
      subst hjn
      refine aw_iload_n d_Night_greatestRing_4 rfl ?_
      refine aw_aload_n d_Night_greatestRing_5 rfl ?_
      refine aw_get (k := 0) d_Night_greatestRing_6 cl_Night k_Night_55 (by decide) hN rfl ?_
      refine aw_icmp_ge (tgt := 34) d_Night_greatestRing_9 (by decide) (fun c9 => ?_) (fun c9 => ?_)
      · refine aw_iload_n d_Night_greatestRing_34 rfl ?_
        refine aw_ireturn d_Night_greatestRing_35 rfl rfl ?_
        exact ⟨rfl, rfl, rfl⟩
      · exact absurd (Int32.le_refl _) c9
    | succ k ih =>
      intro j  hj 
      refine aw_iload_n d_Night_greatestRing_4 rfl ?_
      refine aw_aload_n d_Night_greatestRing_5 rfl ?_
      refine aw_get (k := 0) d_Night_greatestRing_6 cl_Night k_Night_55 (by decide) hN rfl ?_
      refine aw_icmp_ge (tgt := 34) d_Night_greatestRing_9 (by decide) (fun c9 => ?_) (fun c9 => ?_)
      · exact absurd c9 (nI_ge (by omega) (by omega))
      · refine aw_iload_n d_Night_greatestRing_12 rfl ?_
        refine aw_aload_n d_Night_greatestRing_13 rfl ?_
        refine aw_get (k := 6) d_Night_greatestRing_14 cl_Night k_Night_30 (by decide) hN rfl ?_
        refine aw_iload_n d_Night_greatestRing_17 rfl ?_
        refine aw_s0i d_Night_greatestRing_18 k_Night_92 ok_Rows_ring rfl ⟨rfl, rfl⟩ (c_ring ht (show j < 6 by omega)) rfl rfl (Nat.le_of_ble_eq_true rfl) ?_
        refine aw_s0i d_Night_greatestRing_21 k_Night_99 ok_JI_bitCount rfl ⟨rfl, rfl⟩ (c_bitCount _ (rg_t ht (show j < 6 by omega)).2.2.1) rfl rfl (Nat.le_of_ble_eq_true rfl) ?_
        refine aw_max d_Night_greatestRing_24 k_Night_104 ⟨by decide, Nat.le_of_ble_eq_true rfl⟩ ?_
        refine aw_topi (fun v24 ev24 => ?_)
        refine aw_istore_n (L' := [some (.ref 2), some (.int v24), some (.int (nI j))]) d_Night_greatestRing_27 ⟨by decide, rfl⟩ rfl ?_
        refine aw_iinc (v := nI (j + 1)) (L' := [some (.ref 2), some (.int v24), some (.int (nI (j + 1)))]) d_Night_greatestRing_28 rfl (nI_1 _) ⟨by decide, rfl⟩ rfl ?_
        refine aw_goto (tgt := 4) d_Night_greatestRing_31 (by decide) ?_
        have e : v24 = nI (rgm t (j + 1)) := by
          have pl := pop_le (rg t j)
          have ml := rgm_le t j
          rw [ev24, rgm]
          by_cases q : rgm t j < pop (rg t j)
          · rw [if_pos q, if_pos (nI_lt q (by omega))]
          · rw [if_neg q, if_neg (nI_nlt (by omega) (by omega))]
        rw [e]
        exact ih (j + 1) (by omega)
  refine aw_iconst (v := nI 0) d_Night_greatestRing_0 (by decide) ?_
  refine aw_istore_n (L' := [some (.ref 2), some (.int (nI 0)), none]) d_Night_greatestRing_1 ⟨by decide, rfl⟩ rfl ?_
  refine aw_iconst (v := nI 0) d_Night_greatestRing_2 (by decide) ?_
  refine aw_istore_n (L' := [some (.ref 2), some (.int (nI 0)), some (.int (nI 0))]) d_Night_greatestRing_3 ⟨by decide, rfl⟩ rfl ?_
  exact loop n 0 (by omega)
theorem c_withheld {m : Nat} {h : ab_H} {n : Nat} {t : Nat → Nat} {w ns ra se : Nat} {me mi : Int32} {fe : Nat} (hN : h 2 = oN 2 n (nI (pk t)) (nI w) ns ra se me mi fe) (hn : n ≤ 6) (ht : Pm t) (hw : w < 64) : ab_D Y_Night_withheld [.ref 2] m h (some (.int (nI (whd w t n)))) m (h) := by
  refine ab_C.of (L := [some (.ref 2), none, none]) rfl rfl (Nat.le_of_ble_eq_true rfl) (fun l => ?_)
  have loop : ∀ k j, j + k = n → ab_W Y_Night_withheld none l (fun r m2 h2 => r = some (.int (nI (whd w t n))) ∧ m2 = m ∧ h2 = h) 4 [some (.ref 2), some (.int (nI (whd w t j))), some (.int (nI j))] [] m (h) (0, 0) := by
    intro k
    induction k with
    | zero =>
      intro j  hj
      have hjn : j = n := by omega
      subst hjn
      refine aw_iload_n d_Night_withheld_4 rfl ?_
      refine aw_aload_n d_Night_withheld_5 rfl ?_
      refine aw_get (k := 0) d_Night_withheld_6 cl_Night k_Night_55 (by decide) hN rfl ?_
      refine aw_icmp_ge (tgt := 42) d_Night_withheld_9 (by decide) (fun c9 => ?_) (fun c9 => ?_)
      · refine aw_iload_n d_Night_withheld_42 rfl ?_
        refine aw_ireturn d_Night_withheld_43 rfl rfl ?_
        exact ⟨rfl, rfl, rfl⟩
      · exact absurd (Int32.le_refl _) c9
    | succ k ih =>
      intro j  hj 
      refine aw_iload_n d_Night_withheld_4 rfl ?_
      refine aw_aload_n d_Night_withheld_5 rfl ?_
      refine aw_get (k := 0) d_Night_withheld_6 cl_Night k_Night_55 (by decide) hN rfl ?_
      refine aw_icmp_ge (tgt := 42) d_Night_withheld_9 (by decide) (fun c9 => ?_) (fun c9 => ?_)
      · exact absurd c9 (nI_ge (by omega) (by omega))
      · refine aw_aload_n d_Night_withheld_12 rfl ?_
        refine aw_get (k := 7) d_Night_withheld_13 cl_Night k_Night_64 (by decide) hN rfl ?_
        refine aw_iload_n d_Night_withheld_16 rfl ?_
        refine aw_ishr d_Night_withheld_17 ?_
        refine aw_iconst (v := nI 1) d_Night_withheld_18 (by decide) ?_
        refine aw_iand d_Night_withheld_19 ?_
        rw [b_at (by omega) (by omega)]
        refine aw_if_eq (tgt := 36) d_Night_withheld_20 (by decide) (fun c20 => ?_) (fun c20 => ?_)
        · refine aw_iinc (v := nI (j + 1)) (L' := [some (.ref 2), some (.int (nI (whd w t j))), some (.int (nI (j + 1)))]) d_Night_withheld_36 rfl (nI_1 _) ⟨by decide, rfl⟩ rfl ?_
          refine aw_goto (tgt := 4) d_Night_withheld_39 (by decide) ?_
          first
            | (rw [show whd w t j ||| 2 ^ t j = whd w t (j + 1) from (if_pos (b_nz.mp c20)).symm]
               exact ih (j + 1) (by omega))
            | (rw [show whd w t j = whd w t (j + 1) from (if_neg (b_z.mp c20)).symm]
               exact ih (j + 1) (by omega))
        · refine aw_iload_n d_Night_withheld_23 rfl ?_
          refine aw_iconst (v := nI 1) d_Night_withheld_24 (by decide) ?_
          refine aw_aload_n d_Night_withheld_25 rfl ?_
          refine aw_get (k := 6) d_Night_withheld_26 cl_Night k_Night_30 (by decide) hN rfl ?_
          refine aw_iload_n d_Night_withheld_29 rfl ?_
          refine aw_s0i d_Night_withheld_30 k_Night_85 ok_Rows_at rfl ⟨rfl, rfl⟩ (c_at ht.lt8 (show j < 6 by omega)) rfl rfl (Nat.le_of_ble_eq_true rfl) ?_
          refine aw_ishl d_Night_withheld_33 ?_
          refine aw_ior d_Night_withheld_34 ?_
          rw [b_one (Nat.lt_trans (ht.1 j (by omega)) (by decide)), fa_or]
          refine aw_istore_n (L' := [some (.ref 2), some (.int (nI (whd w t j ||| 2 ^ t j))), some (.int (nI j))]) d_Night_withheld_35 ⟨by decide, rfl⟩ rfl ?_
          refine aw_iinc (v := nI (j + 1)) (L' := [some (.ref 2), some (.int (nI (whd w t j ||| 2 ^ t j))), some (.int (nI (j + 1)))]) d_Night_withheld_36 rfl (nI_1 _) ⟨by decide, rfl⟩ rfl ?_
          refine aw_goto (tgt := 4) d_Night_withheld_39 (by decide) ?_
          first
            | (rw [show whd w t j ||| 2 ^ t j = whd w t (j + 1) from (if_pos (b_nz.mp c20)).symm]
               exact ih (j + 1) (by omega))
            | (rw [show whd w t j = whd w t (j + 1) from (if_neg (b_z.mp c20)).symm]
               exact ih (j + 1) (by omega))
  refine aw_iconst (v := nI 0) d_Night_withheld_0 (by decide) ?_
  refine aw_istore_n (L' := [some (.ref 2), some (.int (nI 0)), none]) d_Night_withheld_1 ⟨by decide, rfl⟩ rfl ?_
  refine aw_iconst (v := nI 0) d_Night_withheld_2 (by decide) ?_
  refine aw_istore_n (L' := [some (.ref 2), some (.int (nI 0)), some (.int (nI 0))]) d_Night_withheld_3 ⟨by decide, rfl⟩ rfl ?_
  exact loop n 0 (by omega)
theorem c_bound {m : Nat} {h : ab_H} {n : Nat} {t : Nat → Nat} {w ns ra se : Nat} {me mi : Int32} {fe : Nat} (hN : h 2 = oN 2 n (nI (pk t)) (nI w) ns ra se me mi fe) (hn : n ≤ 6) (ht : Pm t) (hw : w < 64) : ab_D Y_Night_bound [.ref 2] m h (some (.int (nI (bnd n w t)))) m (h) := by
  refine ab_C.of (L := [some (.ref 2)]) rfl rfl (Nat.le_of_ble_eq_true rfl) (fun l => ?_)
  refine aw_aload_n d_Night_bound_0 rfl ?_
  refine aw_v0i d_Night_bound_1 k_Night_107 ok_Night_all rfl ⟨rfl, rfl⟩ cl_Night hN (c_all2 hN hn) rfl rfl (Nat.le_of_ble_eq_true rfl) ?_
  refine aw_aload_n d_Night_bound_4 rfl ?_
  refine aw_get (k := 7) d_Night_bound_5 cl_Night k_Night_64 (by decide) hN rfl ?_
  refine aw_iconst (v := (-1)) d_Night_bound_8 (by decide) ?_
  refine aw_ixor d_Night_bound_9 ?_
  refine aw_iand d_Night_bound_10 ?_
  refine aw_aload_n d_Night_bound_11 rfl ?_
  refine aw_v0i d_Night_bound_12 k_Night_111 ok_Night_withheld rfl ⟨rfl, rfl⟩ cl_Night hN (c_withheld hN hn ht hw) rfl rfl (Nat.le_of_ble_eq_true rfl) ?_
  refine aw_iconst (v := (-1)) d_Night_bound_15 (by decide) ?_
  refine aw_ixor d_Night_bound_16 ?_
  refine aw_iand d_Night_bound_17 ?_
  refine aw_ireturn d_Night_bound_18 rfl rfl ?_
  exact ⟨by rw [b_andn _ (b_63 n hn) _ hw, b_andn _ (and_63 (b_63 n hn)) _ (whd_lt w ht n hn)]; rfl, rfl, rfl⟩
