/-! what is typed, read as facts -/
def sk (g : Nat → Nat) (len : Nat) : Nat → Nat → Nat
  | 0, a => a
  | f + 1, a => if a < len ∧ g a = 32 then sk g len f (a + 1) else a
/-- the place behind blanks, and the sign there (0: none) -/
def lk (g : Nat → Nat) (len a : Nat) : Nat := sk g len (len - a) a
def sg (g : Nat → Nat) (len a : Nat) : Nat := if a < len then g a else 0
def lv (g : Nat → Nat) (len a : Nat) : Int32 := if a < len then nI (g a) else -1
theorem sk_le (g : Nat → Nat) (len : Nat) : ∀ f a, f + a ≤ len → a ≤ sk g len f a ∧ sk g len f a ≤ len
  | 0, a, h => ⟨Nat.le_refl _, by rw [sk]; omega⟩
  | f + 1, a, h => by
    unfold sk
    split
    · have := sk_le g len f (a + 1) (by omega)
      omega
    · omega
theorem lk_le {g : Nat → Nat} {len a : Nat} (h : a ≤ len) : a ≤ lk g len a ∧ lk g len a ≤ len := sk_le g len (len - a) a (by omega)
theorem sk_no {g : Nat → Nat} {len a : Nat} (h : ¬ (a < len ∧ g a = 32)) : ∀ f, sk g len f a = a
  | 0 => rfl
  | f + 1 => by rw [sk, if_neg h]
theorem sk_end (g : Nat → Nat) (len : Nat) : ∀ f a, len ≤ f + a → ¬ (sk g len f a < len ∧ g (sk g len f a) = 32)
  | 0, a, h => by
    rw [sk]
    intro q
    omega
  | f + 1, a, h => by
    unfold sk
    split
    · exact sk_end g len f (a + 1) (by omega)
    · assumption
theorem lk_lk (g : Nat → Nat) (len a : Nat) : lk g len (lk g len a) = lk g len a := sk_no (sk_end g len (len - a) a (by omega)) _
def opc (c : Nat) : Bool := c == 61 || c == 33 || c == 43 || c == 45
def coc (c : Nat) : Bool := c == 61 || c == 33
def plc (c : Nat) : Bool := c == 61 || c == 43
/-- the coats with a mark -/
def mkb (mk : Nat → Nat) (v : Nat) : Nat → Nat
  | 0 => 0
  | p + 1 => mkb mk v p ||| mk p / 2 ^ v % 2 * 2 ^ p
theorem mkb_lt (mk : Nat → Nat) (v : Nat) : ∀ p, mkb mk v p < 2 ^ p
  | 0 => (show 0 < 1 by decide)
  | p + 1 => by
    unfold mkb
    apply Nat.or_lt_two_pow
    · exact Nat.lt_trans (mkb_lt mk v p) (Nat.pow_lt_pow_right (by decide) (by omega))
    · rw [Nat.pow_succ]
      have := Nat.two_pow_pos p
      rcases b_01 (mk p) v with q | q <;> rw [q] <;> omega
def ok3 (n c2 c3 : Nat) : Bool := if coc c2 then decide (97 ≤ c3 ∧ c3 < 97 + n) else decide (49 ≤ c3 ∧ c3 < 55)
def cts (mk : Nat → Nat) (n c2 c3 : Nat) : Nat := if coc c2 then 2 ^ (c3 - 97) else mkb mk (c3 - 49) n
def ndr (old c2 ct : Nat) : Nat := if plc c2 then old &&& ct else old &&& (63 ^^^ ct)
def a1 (g : Nat → Nat) (len a : Nat) : Nat := lk g len a
def a2 (g : Nat → Nat) (len a : Nat) : Nat := lk g len (a1 g len a + 1)
def a3 (g : Nat → Nat) (len a : Nat) : Nat := lk g len (a2 g len a + 1)
/-- a clause from a on: whether it stands there, the place then, what is drafted -/
def cls (n : Nat) (mk g : Nat → Nat) (len a : Nat) (d : Nat → Nat) : Bool × Nat × (Nat → Nat) :=
  if ¬ (97 ≤ sg g len (a1 g len a) ∧ sg g len (a1 g len a) < 97 + n) then (false, a1 g len a, d)
  else if ¬ opc (sg g len (a2 g len a)) = true then (false, a2 g len a, d)
  else if ¬ ok3 n (sg g len (a2 g len a)) (sg g len (a3 g len a)) = true then (false, a3 g len a, d)
  else (true, a3 g len a + 1, ud d (sg g len (a1 g len a) - 97) (ndr (d (sg g len (a1 g len a) - 97)) (sg g len (a2 g len a)) (cts mk n (sg g len (a2 g len a)) (sg g len (a3 g len a)))))
/-- clauses from a on, the c-th first, r more behind it at most -/
def rcl (n : Nat) (mk g : Nat → Nat) (len : Nat) : Nat → Nat → Nat → (Nat → Nat) → Bool × Nat × Nat × (Nat → Nat)
  | 0, c, a, d => ((cls n mk g len a d).1 && decide (sg g len (lk g len (cls n mk g len a d).2.1) = 0), c, if (cls n mk g len a d).1 then lk g len (cls n mk g len a d).2.1 else (cls n mk g len a d).2.1, (cls n mk g len a d).2.2)
  | r + 1, c, a, d =>
    if ¬ (cls n mk g len a d).1 = true then (false, c, (cls n mk g len a d).2.1, (cls n mk g len a d).2.2)
    else if sg g len (lk g len (cls n mk g len a d).2.1) = 0 then (true, c, lk g len (cls n mk g len a d).2.1, (cls n mk g len a d).2.2)
    else if ¬ sg g len (lk g len (cls n mk g len a d).2.1) = 59 then (false, c, lk g len (cls n mk g len a d).2.1, (cls n mk g len a d).2.2)
    else rcl n mk g len r (c + 1) (lk g len (cls n mk g len a d).2.1 + 1) (cls n mk g len a d).2.2
def fcs (S : SS) : Bool × Nat × Nat × (Nat → Nat) := rcl (N_n (S_N S)) (N_mk (S_N S)) (fun k => cl (S_ts S k)) (S_tl S) 11 1 0 (N_ma (S_N S))
def sp_facts (S : SS) : Int32 × SS := if (fcs S).1 then (nI (fcs S).2.1, S_tl_ (S_N_ S (N_ma_ (S_N S) (fcs S).2.2.2)) 0) else ((-20) - nI (fcs S).2.2.1, S_tl_ S 0)
theorem cls_le {n : Nat} {mk g : Nat → Nat} {len a : Nat} {d : Nat → Nat} (h : a ≤ len) : (cls n mk g len a d).2.1 ≤ len := by
  have h1 : a1 g len a ≤ len := (lk_le h).2
  unfold cls
  split
  · exact h1
  · next q1 =>
    have l1 : a1 g len a < len := by
      refine Nat.not_le.mp fun z => q1 fun y => ?_
      rw [sg, if_neg (by omega)] at y
      omega
    have h2 : a2 g len a ≤ len := (lk_le (by omega)).2
    split
    · exact h2
    · next q2 =>
      have l2 : a2 g len a < len := by
        refine Nat.not_le.mp fun z => q2 fun y => ?_
        rw [sg, if_neg (by omega)] at y
        exact absurd y (by decide)
      have h3 : a3 g len a ≤ len := (lk_le (by omega)).2
      split
      · exact h3
      · next q3 =>
        have l3 : a3 g len a < len := by
          refine Nat.not_le.mp fun z => q3 fun y => ?_
          rw [show sg g len (a3 g len a) = 0 from if_neg (show ¬ a3 g len a < len by omega)] at y
          unfold ok3 at y
          split at y <;> simp at y
        exact l3
theorem and_modp (x y n : Nat) : (x &&& y) % 2 ^ n = x % 2 ^ n &&& y := by
  apply Nat.eq_of_testBit_eq
  intro i
  rw [Nat.testBit_mod_two_pow, Nat.testBit_and, Nat.testBit_and, Nat.testBit_mod_two_pow]
  cases decide (i < n) <;> simp
theorem lv_c {g : Nat → Nat} {len a : Nat} (hg : ∀ k, k < len → g k < 127) {c : Nat} (h0 : 0 < c) (hc : c < 2 ^ 31) : lv g len a = nI c ↔ sg g len a = c := by
  unfold lv sg
  by_cases q : a < len
  · rw [if_pos q, if_pos q]
    exact nI_eq (by have := hg a q; omega) hc
  · rw [if_neg q, if_neg q]
    refine ⟨fun z => ?_, fun z => absurd z (by omega)⟩
    have := congrArg Int32.toInt z
    rw [nI_toInt hc, tim1] at this
    omega
theorem lv_i {g : Nat → Nat} {len a : Nat} (hg : ∀ k, k < len → g k < 127) : (lv g len a).toInt = if a < len then (g a : Int) else -1 := by
  unfold lv
  split
  · next q => exact nI_toInt (by have := hg a q; omega)
  · exact tim1
/-- a sign less a base: of n things -/
theorem lvs_ {g : Nat → Nat} {len a b : Nat} (hg : ∀ k, k < len → g k < 127) (hb : b < 127) (hb1 : 1 ≤ b) : (lv g len a - nI b).toInt = (if a < len then (g a : Int) else -1) - b := by
  have h1 := lv_i (a := a) hg
  have h2 := nI_toInt (show b < 2 ^ 31 by omega)
  have h3 : -1 ≤ (if a < len then (g a : Int) else -1) ∧ (if a < len then (g a : Int) else -1) < 127 := by
    split
    · next q => have := hg a q; omega
    · omega
  rw [fb_subI (by rw [h1, h2]; omega) (by rw [h1, h2]; omega), h1, h2]
theorem lv_in {g : Nat → Nat} {len a b n : Nat} (hg : ∀ k, k < len → g k < 127) (hb : b < 127) (hb1 : 1 ≤ b) (hn : n < 2 ^ 31) : (!decide (lv g len a - nI b < 0) && !decide (nI n ≤ lv g len a - nI b)) = decide (b ≤ sg g len a ∧ sg g len a < b + n) := by
  have h1 := lvs_ (a := a) hg hb hb1
  apply Bool.eq_iff_iff.mpr
  simp only [Bool.and_eq_true, Bool.not_eq_true', decide_eq_false_iff_not, decide_eq_true_eq, fa_lt, fa_le, h1, nI_toInt hn, Int32.toInt_zero]
  unfold sg
  split <;> omega
theorem lv_val {g : Nat → Nat} {len a b : Nat} (hg : ∀ k, k < len → g k < 127) (hb : b < 127) (hb1 : 1 ≤ b) (h : b ≤ sg g len a) : lv g len a - nI b = nI (sg g len a - b) := by
  have q : a < len := by
    refine Nat.not_le.mp fun z => ?_
    rw [sg, if_neg (by omega)] at h
    omega
  rw [sg, if_pos q] at h ⊢
  rw [lv, if_pos q]
  exact pk_sub h
theorem c_look {m : Nat} {h : ab_H} {len a : Nat} (hT : h 20 = oT len (nI a)) {G : Nat → Int32} (hG : h 21 = .inl (100, G)) {g : Nat → Nat} (hl : len ≤ 100) (ag : ∀ k, k < len → G k = nI (g k)) (hg : ∀ k, k < len → g k < 127) (ha : a ≤ len) : ab_D Y_Tape_look [.ref 20] m h (some (.int (lv g len (lk g len a)))) m (ab_set h 20 (oT len (nI (lk g len a)))) := by
  refine ab_C.of (L := [some (.ref 20)]) rfl rfl (Nat.le_of_ble_eq_true rfl) (fun l => ?_)
  have loop : ∀ f b, f + b = len → sk g len f b = lk g len a → ab_W Y_Tape_look none l (fun r m2 h2 => r = some (.int (lv g len (lk g len a))) ∧ m2 = m ∧ h2 = ab_set h 20 (oT len (nI (lk g len a)))) 0 [some (.ref 20)] [] m (ab_set h 20 (oT len (nI b))) (0, 0) := by
    intro f
    induction f with
    | zero =>
      intro b hb e
      have hb2 : b = len := by omega
      rw [sk] at e
      refine aw_aload_n d_Tape_look_0 rfl ?_
      refine aw_get (k := 1) d_Tape_look_1 cl_Tape k_Tape_33 (by decide) rfl rfl ?_
      refine aw_aload_n d_Tape_look_4 rfl ?_
      refine aw_get (k := 0) d_Tape_look_5 cl_Tape k_Tape_18 (by decide) rfl rfl ?_
      refine aw_icmp_ge (tgt := 38) d_Tape_look_8 (by decide) (fun c8 => ?_) (fun c8 => ?_)
      · refine aw_aload_n d_Tape_look_38 rfl ?_
        refine aw_get (k := 1) d_Tape_look_39 cl_Tape k_Tape_33 (by decide) rfl rfl ?_
        refine aw_aload_n d_Tape_look_42 rfl ?_
        refine aw_get (k := 0) d_Tape_look_43 cl_Tape k_Tape_18 (by decide) rfl rfl ?_
        refine aw_icmp_ge (tgt := 61) d_Tape_look_46 (by decide) (fun c46 => ?_) (fun c46 => ?_)
        · refine aw_iconst (v := (-1)) d_Tape_look_61 (by decide) ?_
          refine aw_ireturn d_Tape_look_62 rfl rfl ?_
          rw [← e]
          refine ⟨?_, rfl, rfl⟩
          rw [lv, if_neg (by omega)]
        · exact absurd (by rw [hb2]; exact Int32.le_refl _) c46
      · exact absurd (by rw [hb2]; exact Int32.le_refl _) c8
    | succ f ih =>
      intro b hb e
      refine aw_aload_n d_Tape_look_0 rfl ?_
      refine aw_get (k := 1) d_Tape_look_1 cl_Tape k_Tape_33 (by decide) rfl rfl ?_
      refine aw_aload_n d_Tape_look_4 rfl ?_
      refine aw_get (k := 0) d_Tape_look_5 cl_Tape k_Tape_18 (by decide) rfl rfl ?_
      refine aw_icmp_ge (tgt := 38) d_Tape_look_8 (by decide) (fun c8 => ?_) (fun c8 => ?_)
      · exact absurd c8 (nI_ge (by omega) (by omega))
      · refine aw_aload_n d_Tape_look_11 rfl ?_
        refine aw_get (k := 2) d_Tape_look_12 cl_Tape k_Tape_9 (by decide) rfl rfl ?_
        refine aw_aload_n d_Tape_look_15 rfl ?_
        refine aw_get (k := 1) d_Tape_look_16 cl_Tape k_Tape_33 (by decide) rfl rfl ?_
        refine aw_ialoadN d_Tape_look_19 hG (by omega) (by decide) ?_
        refine aw_bipush (v := nI 32) d_Tape_look_20 (by decide) ?_
        refine aw_icmp_ne (tgt := 38) d_Tape_look_22 (by decide) (fun c22 => ?_) (fun c22 => ?_)
        · refine aw_aload_n d_Tape_look_38 rfl ?_
          refine aw_get (k := 1) d_Tape_look_39 cl_Tape k_Tape_33 (by decide) rfl rfl ?_
          refine aw_aload_n d_Tape_look_42 rfl ?_
          refine aw_get (k := 0) d_Tape_look_43 cl_Tape k_Tape_18 (by decide) rfl rfl ?_
          refine aw_icmp_ge (tgt := 61) d_Tape_look_46 (by decide) (fun c46 => ?_) (fun c46 => ?_)
          · exact absurd c46 (nI_ge (by omega) (by omega))
          · refine aw_aload_n d_Tape_look_49 rfl ?_
            refine aw_get (k := 2) d_Tape_look_50 cl_Tape k_Tape_9 (by decide) rfl rfl ?_
            refine aw_aload_n d_Tape_look_53 rfl ?_
            refine aw_get (k := 1) d_Tape_look_54 cl_Tape k_Tape_33 (by decide) rfl rfl ?_
            refine aw_ialoadN d_Tape_look_57 hG (by omega) (by decide) ?_
            refine aw_goto (tgt := 62) d_Tape_look_58 (by decide) ?_
            refine aw_ireturn d_Tape_look_62 rfl rfl ?_
            have q : ¬ g b = 32 := fun q => c22 (by rw [ag b (by omega), q])
            rw [sk_no (fun z => q z.2)] at e
            rw [← e]
            refine ⟨?_, rfl, rfl⟩
            rw [lv, if_pos (by omega), ag b (by omega)]
        · refine aw_aload_n d_Tape_look_25 rfl ?_
          refine aw_dup d_Tape_look_26 rfl ?_
          refine aw_get (k := 1) d_Tape_look_27 cl_Tape k_Tape_33 (by decide) rfl rfl ?_
          refine aw_iconst (v := nI 1) d_Tape_look_30 (by decide) ?_
          refine aw_iadd d_Tape_look_31 ?_
          rw [nI_add]
          refine aw_put (k := 1) (fs' := [.int (nI len), .int (nI (b + 1)), .ref 21, .ref 22]) d_Tape_look_32 cl_Tape k_Tape_33 (by decide) rfl ⟨rfl, rfl⟩ rfl (Nat.le_of_ble_eq_true rfl) rfl ?_
          refine aw_goto (tgt := 0) d_Tape_look_35 (by decide) ?_
          have q : g b = 32 := (nI_eq (by have := hg b (by omega); omega) (by decide)).mp ((ag b (by omega)).symm.trans c22)
          rw [sk, if_pos ⟨by omega, q⟩] at e
          rw [ab_set_set]
          exact ih (b + 1) (by omega) e
  have lp := loop (len - a) a (by omega) rfl
  rw [ab_set_eq hT] at lp
  exact lp
theorem c_marked {m : Nat} {h : ab_H} {N : NS} (hX : NX h 2 N) (ok : N_ok N) {v : Nat} (hv : v < 6) : ab_D Y_Night_marked [.ref 2, .int (nI v)] m h (some (.int (nI (mkb (N_mk N) v (N_n N))))) m (h) := by
  refine ab_C.of (L := [some (.ref 2), some (.int (nI v)), none, none]) rfl rfl (Nat.le_of_ble_eq_true rfl) (fun l => ?_)
  obtain ⟨n0, ⟨gx, hx, ax⟩, ⟨gy, hy, ay⟩, ⟨gm, hm, am⟩, ⟨gl, hl, al⟩, ⟨ga, ha, aa⟩, ⟨gi, hi, ai⟩, ⟨gj, hj0, aj⟩, ⟨gf, hf0, af⟩⟩ := id hX
  have hn6 : N_n N ≤ 6 := ok.1
  have hns : N_ns N ≤ 4 := ok.2.2.2.2.2.2.2.2.1
  have hpm := ok.pm
  have hw6 := ok.w6
  have hfx := ok.2.2.1
  have bx := ok.2.2.2.2.2.1
  have bi := ok.2.2.2.2.2.2.2.2.2.1
  have loop : ∀ k j, j + k = N_n N → ab_W Y_Night_marked none l (fun r m2 h2 => r = some (.int (nI (mkb (N_mk N) v (N_n N)))) ∧ m2 = m ∧ h2 = h) 4 [some (.ref 2), some (.int (nI v)), some (.int (nI (mkb (N_mk N) v (j)))), some (.int (nI (j)))] [] m (h) (0, 0) := by
    intro k
    induction k with
    | zero =>
      intro j hj 
      have hjn : N_n N = j := by omega
      subst hjn
      refine aw_iload_n d_Night_marked_4 rfl ?_
      refine aw_aload_n d_Night_marked_5 rfl ?_
      refine aw_get (k := 0) d_Night_marked_6 cl_Night k_Night_55 (by decide) n0 rfl ?_
      refine aw_icmp_ge (tgt := 33) d_Night_marked_9 (by decide) (fun c9 => ?_) (fun c9 => ?_)
      · refine aw_iload_n d_Night_marked_33 rfl ?_
        refine aw_ireturn d_Night_marked_34 rfl rfl ?_
        exact ⟨rfl, rfl, rfl⟩
      · exact absurd (Int32.le_refl _) c9
    | succ k ih =>
      intro j hj 
      refine aw_iload_n d_Night_marked_4 rfl ?_
      refine aw_aload_n d_Night_marked_5 rfl ?_
      refine aw_get (k := 0) d_Night_marked_6 cl_Night k_Night_55 (by decide) n0 rfl ?_
      refine aw_icmp_ge (tgt := 33) d_Night_marked_9 (by decide) (fun c9 => ?_) (fun c9 => ?_)
      · exact absurd c9 (nI_ge (by omega) (by omega))
      · refine aw_iload_n d_Night_marked_12 rfl ?_
        refine aw_aload_n d_Night_marked_13 rfl ?_
        refine aw_get (k := 3) d_Night_marked_14 cl_Night k_Night_18 (by decide) n0 rfl ?_
        refine aw_iload_n d_Night_marked_17 rfl ?_
        refine aw_ialoadN d_Night_marked_18 hm (by omega) (by decide) ?_
        refine aw_iload_n d_Night_marked_19 rfl ?_
        refine aw_ishr d_Night_marked_20 ?_
        refine aw_iconst (v := nI 1) d_Night_marked_21 (by decide) ?_
        refine aw_iand d_Night_marked_22 ?_
        rw [am j (by omega), b_at (by have := (bx j (by omega)).2.2; omega) (by omega)]
        refine aw_iload_n d_Night_marked_23 rfl ?_
        refine aw_ishl d_Night_marked_24 ?_
        rw [b_shl (by omega) (by have : 2 ^ j ≤ 2 ^ 6 := Nat.pow_le_pow_right (by decide) (by omega); rcases b_01 (N_mk N j) v with q | q <;> rw [q] <;> omega)]
        refine aw_ior d_Night_marked_25 ?_
        refine aw_topi (fun v26 ev26 => ?_)
        refine aw_istore_n (L' := [some (.ref 2), some (.int (nI v)), some (.int v26), some (.int (nI (j)))]) d_Night_marked_26 ⟨by decide, rfl⟩ rfl ?_
        refine aw_iinc (v := nI ((j) + 1)) (L' := [some (.ref 2), some (.int (nI v)), some (.int v26), some (.int (nI ((j) + 1)))]) d_Night_marked_27 rfl (nI_1 _) ⟨by decide, rfl⟩ rfl ?_
        refine aw_goto (tgt := 4) d_Night_marked_30 (by decide) ?_
        rw [show v26 = nI (mkb (N_mk N) v (j + 1)) by rw [ev26, fa_or]; rfl]
        exact ih (j + 1) (by omega)
  refine aw_iconst (v := nI 0) d_Night_marked_0 (by decide) ?_
  refine aw_istore_n (L' := [some (.ref 2), some (.int (nI v)), some (.int (nI 0)), none]) d_Night_marked_1 ⟨by decide, rfl⟩ rfl ?_
  refine aw_iconst (v := nI 0) d_Night_marked_2 (by decide) ?_
  refine aw_istore_n (L' := [some (.ref 2), some (.int (nI v)), some (.int (nI 0)), some (.int (nI 0))]) d_Night_marked_3 ⟨by decide, rfl⟩ rfl ?_
  exact loop (N_n N) 0 (by omega)
