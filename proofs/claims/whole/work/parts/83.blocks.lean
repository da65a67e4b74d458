theorem Pm.comp {a b : Nat → Nat} (ha : Pm a) (hb : Pm b) : Pm (fun k => a (b k)) := ⟨fun k hk => ha.1 _ (hb.1 k hk), fun i j hi hj e => hb.2.1 i j hi hj (ha.2.1 _ _ (hb.1 i hi) (hb.1 j hj) e), fun k hk => by show a (b k) = k; rw [hb.2.2 k hk, ha.2.2 k hk]⟩
theorem iv_out {t : Nat → Nat} (ht : Pm t) {v : Nat} (hv : 6 ≤ v) : iv t v = v := by
  have h0 := ht.1 0 (by decide)
  have h1 := ht.1 1 (by decide)
  have h2 := ht.1 2 (by decide)
  have h3 := ht.1 3 (by decide)
  have h4 := ht.1 4 (by decide)
  have h5 := ht.1 5 (by decide)
  unfold iv
  rw [if_neg (by omega), if_neg (by omega), if_neg (by omega), if_neg (by omega), if_neg (by omega), if_neg (by omega)]
theorem Pm.iv {t : Nat → Nat} (ht : Pm t) : Pm (iv t) := by
  refine ⟨fun k hk => (iv_t ht hk).2.1, fun i j hi hj e => ?_, fun k hk => iv_out ht hk⟩
  have := (iv_t ht hi).1
  rw [e, (iv_t ht hj).1] at this
  exact this.symm
theorem iv_fix {t : Nat → Nat} (ht : Pm t) {n : Nat} (hn : n ≤ 6) (hf : ∀ k, n ≤ k → t k = k) : ∀ k, n ≤ k → iv t k = k := fun k hk => by
  by_cases q : k < 6
  · have := (iv_t ht q).2.2
    rw [hf k hk] at this
    exact this
  · exact iv_out ht (by omega)
theorem ct_pos {P : Nat → Bool} : ∀ {m : Nat}, 0 < fb_ct P m ↔ ∃ k, k < m ∧ P k = true
  | 0 => ⟨fun h => absurd h (Nat.lt_irrefl _), fun ⟨k, h, _⟩ => absurd h (Nat.not_lt_zero _)⟩
  | m + 1 => by
    rw [fb_ct_succ]
    constructor
    · intro h
      by_cases q : P m = true
      · exact ⟨m, by omega, q⟩
      · rw [if_neg q] at h
        obtain ⟨k, h1, h2⟩ := (ct_pos (m := m)).mp h
        exact ⟨k, by omega, h2⟩
    · intro ⟨k, h1, h2⟩
      by_cases e : k = m
      · subst e; rw [if_pos h2]; omega
      · have := (ct_pos (m := m)).mpr ⟨k, by omega, h2⟩
        omega
/-- coats that one likes more -/
def lmr (N : NS) (p c : Nat) : Nat → Nat
  | 0 => 0
  | j + 1 => if N_lk N (6 * p + c) < N_lk N (6 * p + j) then lmr N p c j ||| 2 ^ j else lmr N p c j
theorem lmr_lt (N : NS) (p c : Nat) : ∀ j, j ≤ 6 → lmr N p c j < 64
  | 0, _ => (show 0 < 64 by decide)
  | j + 1, h => by
    unfold lmr
    split
    · exact b_or (k := 6) (lmr_lt N p c j (by omega)) (p6_lt (by omega))
    · exact lmr_lt N p c j (by omega)
theorem lmr_bit (N : NS) (p c q : Nat) : ∀ j, lmr N p c j / 2 ^ q % 2 = 1 ↔ q < j ∧ N_lk N (6 * p + c) < N_lk N (6 * p + q)
  | 0 => ⟨fun h => absurd h (b_zero q), fun h => absurd h.1 (Nat.not_lt_zero _)⟩
  | j + 1 => by
    have ih := lmr_bit N p c q j
    unfold lmr
    by_cases z : N_lk N (6 * p + c) < N_lk N (6 * p + j)
    · rw [if_pos z, b_orr, b_pow, ih]
      constructor
      · intro h
        rcases h with h | h
        · exact ⟨by omega, h.2⟩
        · subst h; exact ⟨by omega, z⟩
      · intro h
        by_cases e : q = j
        · exact Or.inr e.symm
        · exact Or.inl ⟨by omega, h.2⟩
    · rw [if_neg z, ih]
      constructor
      · intro h; exact ⟨by omega, h.2⟩
      · intro h
        by_cases e : q = j
        · subst e; exact absurd h.2 z
        · exact ⟨by omega, h.2⟩
def alB (N : NS) (x : Nat → Nat) (s p : Nat) : Nat := if s / 2 ^ p % 2 = 1 then lmr N p (x p) (N_n N) else 2 ^ N_t N p
def bk (N : NS) (x : Nat → Nat) (s : Nat) : Bool := decide (0 < wc (N_n N) (alB N x s))
def rok (N : NS) (x : Nat → Nat) (s : Nat) (o : Nat → Nat) (p : Nat) : Bool := if s / 2 ^ p % 2 = 1 then decide (s / 2 ^ o p % 2 = 1 ∧ N_lk N (6 * p + x p) < N_lk N (6 * p + N_t N (o p))) else decide (o p = p)
theorem bk_iff {N : NS} (ok : N_ok N) {x : Nat → Nat} {s : Nat} : bk N x s = true ↔ ∃ t, t < TT (N_n N) ∧ ∀ p, p < N_n N → rok N x s (prm (N_n N) t) p = true := by
  have hn := ok.1
  have hpm := ok.pm
  have hfx := ok.2.2.1
  unfold bk wc
  rw [decide_eq_true_eq, ct_pos]
  constructor
  · intro ⟨t, ht, h⟩
    have h := aok_iff.mp h
    obtain ⟨r1, r2, r3⟩ := prm_t hn ht
    have o1 : Pm (fun k => iv (N_t N) (prm (N_n N) t k)) := hpm.iv.comp r1
    have o2 : ∀ k, N_n N ≤ k → iv (N_t N) (prm (N_n N) t k) = k := fun k hk => by rw [r2 k hk, iv_fix hpm hn hfx k hk]
    obtain ⟨u1, u2⟩ := num_t hn o1 o2
    refine ⟨num (N_n N) (fun k => iv (N_t N) (prm (N_n N) t k)), u1, fun p hp => ?_⟩
    rw [u2]
    unfold rok
    have hb := h p hp
    unfold alB at hb
    by_cases q : s / 2 ^ p % 2 = 1
    · rw [if_pos q] at hb ⊢
      rw [decide_eq_true_eq]
      have hb := (lmr_bit _ _ _ _ _).mp hb
      show s / 2 ^ iv (N_t N) (prm (N_n N) t p) % 2 = 1 ∧ N_lk N (6 * p + x p) < N_lk N (6 * p + N_t N (iv (N_t N) (prm (N_n N) t p)))
      rw [(iv_t hpm (r1.1 p (by omega))).1]
      refine ⟨Classical.byContradiction (fun z => ?_), hb.2⟩
      have oin := o1.in hn o2 hp
      have hb2 := h _ oin
      unfold alB at hb2
      rw [if_neg z, b_pow] at hb2
      have e : iv (N_t N) (prm (N_n N) t (iv (N_t N) (prm (N_n N) t p))) = iv (N_t N) (prm (N_n N) t p) := by
        rw [← hb2, (iv_t hpm (Nat.lt_of_lt_of_le oin hn)).2.2]
      have e2 := o1.2.1 _ _ (Nat.lt_of_lt_of_le oin hn) (show p < 6 by omega) e
      have e2 : iv (N_t N) (prm (N_n N) t p) = p := e2
      rw [e2] at z
      exact z q
    · rw [if_neg q] at hb ⊢
      rw [decide_eq_true_eq]
      show iv (N_t N) (prm (N_n N) t p) = p
      rw [← (b_pow _ _).mp hb, (iv_t hpm (show p < 6 by omega)).2.2]
  · intro ⟨t, ht, h⟩
    obtain ⟨r1, r2, r3⟩ := prm_t hn ht
    have o1 : Pm (fun k => N_t N (prm (N_n N) t k)) := hpm.comp r1
    have o2 : ∀ k, N_n N ≤ k → N_t N (prm (N_n N) t k) = k := fun k hk => by rw [r2 k hk, hfx k hk]
    obtain ⟨u1, u2⟩ := num_t hn o1 o2
    refine ⟨num (N_n N) (fun k => N_t N (prm (N_n N) t k)), u1, aok_iff.mpr (fun p hp => ?_)⟩
    rw [u2]
    have hb := h p hp
    unfold rok at hb
    unfold alB
    by_cases q : s / 2 ^ p % 2 = 1
    · rw [if_pos q, decide_eq_true_eq] at hb
      rw [if_pos q, lmr_bit]
      exact ⟨o1.in hn o2 hp, hb.2⟩
    · rw [if_neg q, decide_eq_true_eq] at hb
      rw [if_neg q, b_pow]
      show N_t N p = N_t N (prm (N_n N) t p)
      rw [hb]
def bsr (N : NS) (x : Nat → Nat) : Nat → Nat → Int32
  | 0, _ => -4
  | f + 1, s => if s &&& N_w N = 0 ∧ bk N x s = true then nI s else bsr N x f (s + 1)
def sp_blocks (S : SS) (sh lane i : Int32) : Int32 × SS := if sp_take S sh lane i < 0 then (sp_take S sh lane i, S) else (bsr (S_N S) (tkf S sh i) (2 ^ N_n (S_N S) - 1) 1, S)
theorem c_likedMore {m : Nat} {h : ab_H} {N : NS} (hX : NX h 2 N) (ok : N_ok N) {p c : Nat} (hp : p < 6) (hc : c < 6) : ab_D Y_Givings_likedMore [.ref 2, .int (nI p), .int (nI c)] m h (some (.int (nI (lmr N p c (N_n N))))) m (h) := by
  refine ab_C.of (L := [some (.ref 2), some (.int (nI p)), some (.int (nI c)), none, none]) rfl rfl (Nat.le_of_ble_eq_true rfl) (fun l => ?_)
  obtain ⟨n0, ⟨gx, hx, ax⟩, ⟨gy, hy, ay⟩, ⟨gm, hm, am⟩, ⟨gl, hl, al⟩, ⟨ga, ha, aa⟩, ⟨gi, hi, ai⟩, ⟨gj, hj0, aj⟩, ⟨gf, hf0, af⟩⟩ := id hX
  have hn6 : N_n N ≤ 6 := ok.1
  have hns : N_ns N ≤ 4 := ok.2.2.2.2.2.2.2.2.1
  have hpm := ok.pm
  have hw6 := ok.w6
  have hfx := ok.2.2.1
  have bx := ok.2.2.2.2.2.1
  have bi := ok.2.2.2.2.2.2.2.2.2.1
  have blk := ok.2.2.2.2.2.2.1
  have loop : ∀ kf j, j + kf = N_n N → ab_W Y_Givings_likedMore none l (fun r m2 h2 => r = some (.int (nI (lmr N p c (N_n N)))) ∧ m2 = m ∧ h2 = h) 5 [some (.ref 2), some (.int (nI p)), some (.int (nI c)), some (.int (nI (lmr N p c (j)))), some (.int (nI (j)))] [] m (h) (0, 0) := by
    intro kf
    induction kf with
    | zero =>
      intro j hj 
      have hjn : N_n N = j := by omega
      subst hjn
      refine aw_iload d_Givings_likedMore_5 rfl ?_
      refine aw_aload_n d_Givings_likedMore_7 rfl ?_
      refine aw_get (k := 0) d_Givings_likedMore_8 cl_Night k_Givings_52 (by decide) n0 rfl ?_
      refine aw_icmp_ge (tgt := 43) d_Givings_likedMore_11 (by decide) (fun c11 => ?_) (fun c11 => ?_)
      · refine aw_iload_n d_Givings_likedMore_43 rfl ?_
        refine aw_ireturn d_Givings_likedMore_44 rfl rfl ?_
        exact ⟨rfl, rfl, rfl⟩
      · exact absurd (Int32.le_refl _) c11
    | succ kf ih =>
      intro j hj 
      refine aw_iload d_Givings_likedMore_5 rfl ?_
      refine aw_aload_n d_Givings_likedMore_7 rfl ?_
      refine aw_get (k := 0) d_Givings_likedMore_8 cl_Night k_Givings_52 (by decide) n0 rfl ?_
      refine aw_icmp_ge (tgt := 43) d_Givings_likedMore_11 (by decide) (fun c11 => ?_) (fun c11 => ?_)
      · exact absurd c11 (nI_ge (by omega) (by omega))
      · refine aw_aload_n d_Givings_likedMore_14 rfl ?_
        refine aw_iload_n d_Givings_likedMore_15 rfl ?_
        refine aw_iload d_Givings_likedMore_16 rfl ?_
        refine aw_v0i (a := 2) d_Givings_likedMore_18 k_Givings_77 ok_Night_liking rfl ⟨rfl, rfl⟩ cl_Night n0 (c_liking n0 hl p j hp (by omega)) rfl rfl (Nat.le_of_ble_eq_true rfl) ?_
        refine aw_aload_n d_Givings_likedMore_21 rfl ?_
        refine aw_iload_n d_Givings_likedMore_22 rfl ?_
        refine aw_iload_n d_Givings_likedMore_23 rfl ?_
        refine aw_v0i (a := 2) d_Givings_likedMore_24 k_Givings_77 ok_Night_liking rfl ⟨rfl, rfl⟩ cl_Night n0 (c_liking n0 hl p c hp hc) rfl rfl (Nat.le_of_ble_eq_true rfl) ?_
        rw [al (6 * p + j) (by omega), al (6 * p + c) (by omega)]
        refine aw_icmp_le (tgt := 37) d_Givings_likedMore_27 (by decide) (fun c27 => ?_) (fun c27 => ?_)
        · refine aw_iinc (v := nI ((j) + 1)) (L' := [some (.ref 2), some (.int (nI p)), some (.int (nI c)), some (.int (nI (lmr N p c (j)))), some (.int (nI ((j) + 1)))]) d_Givings_likedMore_37 rfl (nI_1 _) ⟨by decide, rfl⟩ rfl ?_
          refine aw_goto (tgt := 5) d_Givings_likedMore_40 (by decide) ?_
          have b1 := blk (6 * p + j) (by omega)
          have b2 := blk (6 * p + c) (by omega)
          first
            | (rw [show lmr N p c j = lmr N p c (j + 1) from (if_neg (by have := (nI_leI (by omega) (by omega)).mp c27; omega)).symm]
               exact ih (j + 1) (by omega))
            | (rw [show lmr N p c j ||| 2 ^ j = lmr N p c (j + 1) from (if_pos (Nat.not_le.mp (fun z => c27 (nI_le z (by omega))))).symm]
               exact ih (j + 1) (by omega))
        · refine aw_iload_n d_Givings_likedMore_30 rfl ?_
          refine aw_iconst (v := nI 1) d_Givings_likedMore_31 (by decide) ?_
          refine aw_iload d_Givings_likedMore_32 rfl ?_
          refine aw_ishl d_Givings_likedMore_34 ?_
          refine aw_ior d_Givings_likedMore_35 ?_
          rw [b_one (by omega), fa_or]
          refine aw_istore_n (L' := [some (.ref 2), some (.int (nI p)), some (.int (nI c)), some (.int (nI (lmr N p c j ||| 2 ^ j))), some (.int (nI (j)))]) d_Givings_likedMore_36 ⟨by decide, rfl⟩ rfl ?_
          refine aw_iinc (v := nI ((j) + 1)) (L' := [some (.ref 2), some (.int (nI p)), some (.int (nI c)), some (.int (nI (lmr N p c j ||| 2 ^ j))), some (.int (nI ((j) + 1)))]) d_Givings_likedMore_37 rfl (nI_1 _) ⟨by decide, rfl⟩ rfl ?_
          refine aw_goto (tgt := 5) d_Givings_likedMore_40 (by decide) ?_
          have b1 := blk (6 * p + j) (by omega)
          have b2 := blk (6 * p + c) (by omega)
          first
            | (rw [show lmr N p c j = lmr N p c (j + 1) from (if_neg (by have := (nI_leI (by omega) (by omega)).mp c27; omega)).symm]
               exact ih (j + 1) (by omega))
            | (rw [show lmr N p c j ||| 2 ^ j = lmr N p c (j + 1) from (if_pos (Nat.not_le.mp (fun z => c27 (nI_le z (by omega))))).symm]
               exact ih (j + 1) (by omega))
  refine aw_iconst (v := nI 0) d_Givings_likedMore_0 (by decide) ?_
  refine aw_istore_n (L' := [some (.ref 2), some (.int (nI p)), some (.int (nI c)), some (.int (nI 0)), none]) d_Givings_likedMore_1 ⟨by decide, rfl⟩ rfl ?_
  refine aw_iconst (v := nI 0) d_Givings_likedMore_2 (by decide) ?_
  refine aw_istore (L' := [some (.ref 2), some (.int (nI p)), some (.int (nI c)), some (.int (nI 0)), some (.int (nI 0))]) d_Givings_likedMore_3 ⟨by decide, rfl⟩ rfl ?_
  exact loop (N_n N) 0 (by omega)
theorem c_couldDoBetter {m : Nat} {h : ab_H} (hG0 : h 32 = oG) {g3 g4 : Nat → Int32} (h3 : h 33 = .inl (6, g3)) (h4 : h 34 = .inl (64, g4)) {N : NS} (hX : NX h 2 N) (ok : N_ok N) {s : Nat} (hs : s < 64) {A : Nat} {g : Nat → Int32} (hA : h A = .inl (6, g)) (hA3 : A ≠ 33) {x : Nat → Nat} (hx : ∀ k, k < N_n N → x k < 6) (hg : ∀ k, k < N_n N → g k = nI (x k)) : ab_C Y_Givings_couldDoBetter [.ref 32, .ref 2, .int (nI s), .ref A] m h (fun r m2 h2 => r = some (.int (ab_bl (bk N x s))) ∧ m2 = m ∧ ∃ g3 g4 : Nat → Int32, h2 = HG h g3 g4) := by
  obtain ⟨n0, ⟨gx, hx0, ax⟩, ⟨gy, hy, ay⟩, ⟨gm, hm, am⟩, ⟨gl, hl, al⟩, ⟨ga, ha, aa⟩, ⟨gi, hi, ai⟩, ⟨gj, hj0, aj⟩, ⟨gf, hf0, af⟩⟩ := id hX
  have hn6 : N_n N ≤ 6 := ok.1
  have hns : N_ns N ≤ 4 := ok.2.2.2.2.2.2.2.2.1
  have hpm := ok.pm
  have hw6 := ok.w6
  have hfx := ok.2.2.1
  have bx := ok.2.2.2.2.2.1
  have bi := ok.2.2.2.2.2.2.2.2.2.1
  refine ab_C.of (L := [some (.ref 32), some (.ref 2), some (.int (nI s)), some (.ref A), none, none]) rfl rfl (Nat.le_of_ble_eq_true rfl) (fun l => ?_)
  have loop : ∀ kf j (a3 : Nat → Int32), j + kf = N_n N → (∀ k, k < j → a3 k = nI (alB N x s k) ∧ alB N x s k < 64) → ab_W Y_Givings_couldDoBetter none l (fun r m2 h2 => r = some (.int (ab_bl (bk N x s))) ∧ m2 = m ∧ ∃ g3 g4 : Nat → Int32, h2 = HG h g3 g4) 3 [some (.ref 32), some (.ref 2), some (.int (nI s)), some (.ref A), some (.int (nI (j))), none] [] m (ab_set h 33 (.inl (6, a3))) (0, 0) := by
    intro kf
    induction kf with
    | zero =>
      intro j a3 hj e0
      have hjn : N_n N = j := by omega
      subst hjn
      refine aw_iload d_Givings_couldDoBetter_3 rfl ?_
      refine aw_aload_n d_Givings_couldDoBetter_5 rfl ?_
      refine aw_get (k := 0) d_Givings_couldDoBetter_6 cl_Night k_Givings_52 (by decide) n0 rfl ?_
      refine aw_icmp_ge (tgt := 70) d_Givings_couldDoBetter_9 (by decide) (fun c9 => ?_) (fun c9 => ?_)
      · refine aw_aload_n d_Givings_couldDoBetter_70 rfl ?_
        refine aw_aload_n d_Givings_couldDoBetter_71 rfl ?_
        refine aw_v0i (a := 2) d_Givings_couldDoBetter_72 k_Givings_45 ok_Night_all rfl ⟨rfl, rfl⟩ cl_Night n0 (c_all2 n0 hn6) rfl rfl (Nat.le_of_ble_eq_true rfl) ?_
        refine aw_v0 (a := 32) d_Givings_couldDoBetter_75 k_Givings_49 ok_Givings_number rfl ⟨rfl, rfl⟩ cl_Givings hG0 (c_number (h := ab_set h 33 (.inl (6, a3))) (g3 := a3) (al := alB N x s) hG0 hn6 rfl h4 e0) rfl rfl (Nat.le_of_ble_eq_true rfl) (fun r m2 h2 q => ?_)
        obtain ⟨rfl, em, g5, rfl⟩ := q
        rw [em]
        show ab_W _ _ _ _ 78 _ [.int (nI (wc (N_n N) (alB N x s)))] _ _ _
        refine aw_if_le (tgt := 85) d_Givings_couldDoBetter_78 (by decide) (fun c78 => ?_) (fun c78 => ?_)
        · refine aw_iconst (v := nI 0) d_Givings_couldDoBetter_85 (by decide) ?_
          refine aw_ireturn d_Givings_couldDoBetter_86 rfl (by decide) ?_
          have hw7 : wc (N_n N) (alB N x s) ≤ 720 := Nat.le_trans (fb_ct_le _ _) (TT_le hn6).1
          refine ⟨?_, rfl, a3, g5, rfl⟩
          first
            | (have c78 := (nI_leI (b := 0) (by omega) (by decide)).mp c78
               rw [show bk N x s = false from decide_eq_false (by omega)]; rfl)
            | (rw [show bk N x s = true from decide_eq_true (Nat.not_le.mp (fun z => c78 (nI_le (b := 0) z (by decide))))]; rfl)
        · refine aw_iconst (v := nI 1) d_Givings_couldDoBetter_81 (by decide) ?_
          refine aw_goto (tgt := 86) d_Givings_couldDoBetter_82 (by decide) ?_
          refine aw_ireturn d_Givings_couldDoBetter_86 rfl (by decide) ?_
          have hw7 : wc (N_n N) (alB N x s) ≤ 720 := Nat.le_trans (fb_ct_le _ _) (TT_le hn6).1
          refine ⟨?_, rfl, a3, g5, rfl⟩
          first
            | (have c78 := (nI_leI (b := 0) (by omega) (by decide)).mp c78
               rw [show bk N x s = false from decide_eq_false (by omega)]; rfl)
            | (rw [show bk N x s = true from decide_eq_true (Nat.not_le.mp (fun z => c78 (nI_le (b := 0) z (by decide))))]; rfl)
      · exact absurd (Int32.le_refl _) c9
    | succ kf ih =>
      intro j a3 hj e0
      refine aw_iload d_Givings_couldDoBetter_3 rfl ?_
      refine aw_aload_n d_Givings_couldDoBetter_5 rfl ?_
      refine aw_get (k := 0) d_Givings_couldDoBetter_6 cl_Night k_Givings_52 (by decide) n0 rfl ?_
      refine aw_icmp_ge (tgt := 70) d_Givings_couldDoBetter_9 (by decide) (fun c9 => ?_) (fun c9 => ?_)
      · exact absurd c9 (nI_ge (by omega) (by omega))
      · refine aw_iload_n d_Givings_couldDoBetter_12 rfl ?_
        refine aw_iload d_Givings_couldDoBetter_13 rfl ?_
        refine aw_ishr d_Givings_couldDoBetter_15 ?_
        refine aw_iconst (v := nI 1) d_Givings_couldDoBetter_16 (by decide) ?_
        refine aw_iand d_Givings_couldDoBetter_17 ?_
        rw [b_at (by omega) (by omega)]
        refine aw_if_eq (tgt := 25) d_Givings_couldDoBetter_18 (by decide) (fun c18 => ?_) (fun c18 => ?_)
        · refine aw_iconst (v := nI 0) d_Givings_couldDoBetter_25 (by decide) ?_
          refine aw_istore (L' := [some (.ref 32), some (.ref 2), some (.int (nI s)), some (.ref A), some (.int (nI (j))), some (.int (nI 0))]) d_Givings_couldDoBetter_26 ⟨by decide, rfl⟩ rfl ?_
          refine aw_aload_n d_Givings_couldDoBetter_28 rfl ?_
          refine aw_get (k := 0) d_Givings_couldDoBetter_29 cl_Givings k_Givings_9 (by decide) hG0 rfl ?_
          refine aw_iload d_Givings_couldDoBetter_32 rfl ?_
          refine aw_iload d_Givings_couldDoBetter_34 rfl ?_
          refine aw_if_eq (tgt := 52) d_Givings_couldDoBetter_36 (by decide) (fun c36 => ?_) (fun c36 => ?_)
          · refine aw_iconst (v := nI 1) d_Givings_couldDoBetter_52 (by decide) ?_
            refine aw_aload_n d_Givings_couldDoBetter_53 rfl ?_
            refine aw_get (k := 6) d_Givings_couldDoBetter_54 cl_Night k_Givings_69 (by decide) n0 rfl ?_
            refine aw_iload d_Givings_couldDoBetter_57 rfl ?_
            refine aw_s0i d_Givings_couldDoBetter_59 k_Givings_72 ok_Rows_at rfl ⟨rfl, rfl⟩ (c_at hpm.lt8 (show j < 6 by omega)) rfl rfl (Nat.le_of_ble_eq_true rfl) ?_
            refine aw_ishl d_Givings_couldDoBetter_62 ?_
            refine aw_iastoreN d_Givings_couldDoBetter_63 rfl (by omega) (by decide) ?_
            refine aw_iinc (v := nI ((j) + 1)) (L' := [some (.ref 32), some (.ref 2), some (.int (nI s)), some (.ref A), some (.int (nI ((j) + 1))), some (.int (nI 0))]) d_Givings_couldDoBetter_64 rfl (nI_1 _) ⟨by decide, rfl⟩ rfl ?_
            refine aw_goto (tgt := 3) d_Givings_couldDoBetter_67 (by decide) ?_
            rw [ab_set_set]
            first
              | (refine aw_drop 5 (ih (j + 1) _ (by omega) (fun k hk => ?_))
                 by_cases e : k = j
                 · subst e
                   rw [pk_us]
                   first
                     | (rw [show alB N x s k = lmr N k (x k) (N_n N) from if_pos (b_nz.mp c18)]; exact ⟨rfl, lmr_lt N k _ _ hn6⟩)
                     | (rw [show alB N x s k = 2 ^ N_t N k from if_neg (b_z.mp c18), b_one (by have := hpm.1 k (by omega); omega)]; exact ⟨rfl, p6_lt (hpm.1 k (by omega))⟩)
                 · rw [pk_un e]; exact e0 k (by omega))
          · first | exact absurd c36 (by decide) | exact absurd (by decide) c36
        · refine aw_iconst (v := nI 1) d_Givings_couldDoBetter_21 (by decide) ?_
          refine aw_goto (tgt := 26) d_Givings_couldDoBetter_22 (by decide) ?_
          refine aw_istore (L' := [some (.ref 32), some (.ref 2), some (.int (nI s)), some (.ref A), some (.int (nI (j))), some (.int (nI 1))]) d_Givings_couldDoBetter_26 ⟨by decide, rfl⟩ rfl ?_
          refine aw_aload_n d_Givings_couldDoBetter_28 rfl ?_
          refine aw_get (k := 0) d_Givings_couldDoBetter_29 cl_Givings k_Givings_9 (by decide) hG0 rfl ?_
          refine aw_iload d_Givings_couldDoBetter_32 rfl ?_
          refine aw_iload d_Givings_couldDoBetter_34 rfl ?_
          refine aw_if_eq (tgt := 52) d_Givings_couldDoBetter_36 (by decide) (fun c36 => ?_) (fun c36 => ?_)
          · first | exact absurd c36 (by decide) | exact absurd (by decide) c36
          · refine aw_aload_n d_Givings_couldDoBetter_39 rfl ?_
            refine aw_iload d_Givings_couldDoBetter_40 rfl ?_
            refine aw_aload_n d_Givings_couldDoBetter_42 rfl ?_
            refine aw_iload d_Givings_couldDoBetter_43 rfl ?_
            refine aw_ialoadN d_Givings_couldDoBetter_45 ((ab_set_ne hA3).trans hA) (by omega) (by decide) ?_
            rw [hg j (by omega)]
            refine aw_s0i d_Givings_couldDoBetter_46 k_Givings_66 ok_Givings_likedMore rfl ⟨rfl, rfl⟩ (c_likedMore (h := ab_set h 33 (.inl (6, a3))) (hX.fr (fun k _ _ => ab_set_ne (by omega))) ok (show j < 6 by omega) (hx j (by omega))) rfl rfl (Nat.le_of_ble_eq_true rfl) ?_
            refine aw_goto (tgt := 63) d_Givings_couldDoBetter_49 (by decide) ?_
            refine aw_iastoreN d_Givings_couldDoBetter_63 rfl (by omega) (by decide) ?_
            refine aw_iinc (v := nI ((j) + 1)) (L' := [some (.ref 32), some (.ref 2), some (.int (nI s)), some (.ref A), some (.int (nI ((j) + 1))), some (.int (nI 1))]) d_Givings_couldDoBetter_64 rfl (nI_1 _) ⟨by decide, rfl⟩ rfl ?_
            refine aw_goto (tgt := 3) d_Givings_couldDoBetter_67 (by decide) ?_
            rw [ab_set_set]
            first
              | (refine aw_drop 5 (ih (j + 1) _ (by omega) (fun k hk => ?_))
                 by_cases e : k = j
                 · subst e
                   rw [pk_us]
                   first
                     | (rw [show alB N x s k = lmr N k (x k) (N_n N) from if_pos (b_nz.mp c18)]; exact ⟨rfl, lmr_lt N k _ _ hn6⟩)
                     | (rw [show alB N x s k = 2 ^ N_t N k from if_neg (b_z.mp c18), b_one (by have := hpm.1 k (by omega); omega)]; exact ⟨rfl, p6_lt (hpm.1 k (by omega))⟩)
                 · rw [pk_un e]; exact e0 k (by omega))
  refine aw_iconst (v := nI 0) d_Givings_couldDoBetter_0 (by decide) ?_
  refine aw_istore (L' := [some (.ref 32), some (.ref 2), some (.int (nI s)), some (.ref A), some (.int (nI 0)), none]) d_Givings_couldDoBetter_1 ⟨by decide, rfl⟩ rfl ?_
  exact aw_heap (ab_set_eq (h := h) (a := 33) h3) (loop (N_n N) 0 g3 (by omega) (fun k hk => absurd hk (Nat.not_lt_zero _)))
theorem x_blocks {V : VV} {m : Nat} {h : ab_H} {S : SS} (hX : PX V m h S) (ok : S_ok S) (sh lane i : Int32) : CX V Y_Coat_blocks [.int sh, .int lane, .int i] m h (fun r S2 => (r, S2) = sp_blocks S sh lane i) := by
  obtain ⟨⟨a0, ⟨n0, n1, n2, n3, n4, n5, n6, n7, n8⟩, a2⟩, p1, p2, p3, p4, p5, p6, p7⟩ := id hX
  have hn6 : N_n (S_N S) ≤ 6 := ok.1.1
  have hnT := nI_toInt (show N_n (S_N S) < 2 ^ 31 by omega)
  obtain ⟨⟨gk, hk⟩, hG0, ⟨g3, h3⟩, ⟨g4, h4⟩⟩ := id p3
  have h64 : 2 ^ N_n (S_N S) ≤ 64 := Nat.pow_le_pow_right (by decide) hn6
  have hpos := Nat.two_pow_pos (N_n (S_N S))
  refine ab_C.of (L := [some (.ref 1), some (.int sh), some (.int lane), some (.int i), none, none]) rfl rfl (Nat.le_of_ble_eq_true rfl) (fun l => ?_)
  refine aw_aload_n d_Coat_blocks_0 rfl ?_
  refine aw_iload_n d_Coat_blocks_1 rfl ?_
  refine aw_iload_n d_Coat_blocks_2 rfl ?_
  refine aw_iload_n d_Coat_blocks_3 rfl ?_
  refine aw_v0 (a := 1) d_Coat_blocks_4 k_Coat_138 ok_Coat_take rfl ⟨rfl, rfl⟩ cl_Coat a0 (c_take hX ok sh lane i) rfl rfl (Nat.le_of_ble_eq_true rfl) (fun r m2 h2 q => ?_)
  obtain ⟨rfl, em, g, rfl, hgk⟩ := q
  rw [em]
  have hX1 := hX.tk g
  show ab_W _ _ _ _ 7 _ [.int (sp_take S sh lane i)] _ _ _
  refine aw_topi (fun v7 ev7 => ?_)
  refine aw_istore (L' := [some (.ref 1), some (.int sh), some (.int lane), some (.int i), some (.int v7), none]) d_Coat_blocks_7 ⟨by decide, rfl⟩ rfl ?_
  refine aw_iload d_Coat_blocks_9 rfl ?_
  refine aw_if_ge (tgt := 17) d_Coat_blocks_11 (by decide) (fun c11 => ?_) (fun c11 => ?_)
  · have t01 := sp_take_0 ok (Int32.not_lt.mpr (by rw [← ev7]; exact c11))
    obtain ⟨t0, tgq⟩ := t01
    obtain ⟨tp, tf, ti⟩ := tkg_pm hn6 tgq
    refine aw_iconst (v := nI 1) d_Coat_blocks_17 (by decide) ?_
    refine aw_istore (L' := [some (.ref 1), some (.int sh), some (.int lane), some (.int i), some (.int v7), some (.int (nI 1))]) d_Coat_blocks_18 ⟨by decide, rfl⟩ rfl ?_
    have loop : ∀ kf s (a3 a4 : Nat → Int32), s + kf = 2 ^ N_n (S_N S) → 1 ≤ s → bsr (S_N S) (tkf S sh i) kf s = bsr (S_N S) (tkf S sh i) (2 ^ N_n (S_N S) - 1) 1 → ab_W Y_Coat_blocks none l (fun r m2 h2 => ∃ (v : Int32) (S2 : SS), r = some (.int v) ∧ (v, S2) = sp_blocks S sh lane i ∧ PX V m2 h2 S2 ∧ m ≤ m2 ∧ ∀ k, 56 ≤ k → k ≤ 88 → h2 k = h k) 20 [some (.ref 1), some (.int sh), some (.int lane), some (.int i), some (.int v7), some (.int (nI (s)))] [] m (HG (ab_set h 31 (.inl (6, g))) a3 a4) (0, 0) := by
      intro kf
      induction kf with
      | zero =>
        intro s a3 a4 hs hs1 e0
        have hsn : 2 ^ N_n (S_N S) = s := by omega
        subst hsn
        refine aw_iload d_Coat_blocks_20 rfl ?_
        refine aw_aload_n d_Coat_blocks_22 rfl ?_
        refine aw_get (k := 0) d_Coat_blocks_23 cl_Coat k_Coat_10 (by decide) a0 rfl ?_
        refine aw_v0i (a := 2) d_Coat_blocks_26 k_Coat_250 ok_Night_all rfl ⟨rfl, rfl⟩ cl_Night n0 (c_all2 n0 hn6) rfl rfl (Nat.le_of_ble_eq_true rfl) ?_
        refine aw_icmp_gt (tgt := 74) d_Coat_blocks_29 (by decide) (fun c29 => ?_) (fun c29 => ?_)
        · refine aw_bipush (v := (-4)) d_Coat_blocks_74 (by decide) ?_
          refine aw_ireturn d_Coat_blocks_76 rfl rfl ?_
          refine ⟨_, S, rfl, ?_, hX1.gv a3 a4, Nat.le_refl _, fun k _ _ => by unfold HG; rw [ab_set_ne (by omega), ab_set_ne (by omega), ab_set_ne (by omega)]⟩
          unfold sp_blocks
          rw [t0, if_neg (by decide), ← e0]
          rfl
        · exact absurd (nI_lt (by omega) (by omega)) c29
      | succ kf ih =>
        intro s a3 a4 hs hs1 e0
        refine aw_iload d_Coat_blocks_20 rfl ?_
        refine aw_aload_n d_Coat_blocks_22 rfl ?_
        refine aw_get (k := 0) d_Coat_blocks_23 cl_Coat k_Coat_10 (by decide) a0 rfl ?_
        refine aw_v0i (a := 2) d_Coat_blocks_26 k_Coat_250 ok_Night_all rfl ⟨rfl, rfl⟩ cl_Night n0 (c_all2 n0 hn6) rfl rfl (Nat.le_of_ble_eq_true rfl) ?_
        refine aw_icmp_gt (tgt := 74) d_Coat_blocks_29 (by decide) (fun c29 => ?_) (fun c29 => ?_)
        · exact absurd c29 (nI_nlt (by omega) (by omega))
        · refine aw_iload d_Coat_blocks_32 rfl ?_
          refine aw_aload_n d_Coat_blocks_34 rfl ?_
          refine aw_get (k := 0) d_Coat_blocks_35 cl_Coat k_Coat_10 (by decide) a0 rfl ?_
          refine aw_get (k := 7) d_Coat_blocks_38 cl_Night k_Coat_120 (by decide) n0 rfl ?_
          refine aw_iand d_Coat_blocks_41 ?_
          rw [fa_and]
          refine aw_if_ne (tgt := 68) d_Coat_blocks_42 (by decide) (fun c42 => ?_) (fun c42 => ?_)
          · refine aw_iinc (v := nI ((s) + 1)) (L' := [some (.ref 1), some (.int sh), some (.int lane), some (.int i), some (.int v7), some (.int (nI ((s) + 1)))]) d_Coat_blocks_68 rfl (nI_1 _) ⟨by decide, rfl⟩ rfl ?_
            refine aw_goto (tgt := 20) d_Coat_blocks_71 (by decide) ?_
            first
              | (refine ih (s + 1) a3 a4 (by omega) (by omega) ?_
                 rw [← e0]
                 exact (if_neg (fun z => c42 (by rw [z.1]; rfl))).symm)
              | (refine ih (s + 1) b3 b4 (by omega) (by omega) ?_
                 rw [← e0]
                 exact (if_neg (fun z => by rw [ab_bl_0.mp c62] at z; cases z.2)).symm)
          · refine aw_aload_n d_Coat_blocks_45 rfl ?_
            refine aw_get (k := 6) d_Coat_blocks_46 cl_Coat k_Coat_40 (by decide) a0 rfl ?_
            refine aw_aload_n d_Coat_blocks_49 rfl ?_
            refine aw_get (k := 0) d_Coat_blocks_50 cl_Coat k_Coat_10 (by decide) a0 rfl ?_
            refine aw_iload d_Coat_blocks_53 rfl ?_
            refine aw_aload_n d_Coat_blocks_55 rfl ?_
            refine aw_get (k := 5) d_Coat_blocks_56 cl_Coat k_Coat_33 (by decide) a0 rfl ?_
            refine aw_v0 (a := 32) d_Coat_blocks_59 k_Coat_302 ok_Givings_couldDoBetter rfl ⟨rfl, rfl⟩ cl_Givings hG0 (c_couldDoBetter (h := HG (ab_set h 31 (.inl (6, g))) a3 a4) (N := S_N S) hG0 rfl rfl ((hX1.gv a3 a4).1.2.1) ok.1 (show s < 64 by omega) (A := 31) (g := g) rfl (by decide) (fun k hk => tp.1 k (by omega)) (hgk t0)) rfl rfl (Nat.le_of_ble_eq_true rfl) (fun r m2 h2 q => ?_)
            obtain ⟨rfl, em, b3, b4, rfl⟩ := q
            rw [em, hg_set]
            show ab_W _ _ _ _ 62 _ [.int (ab_bl (bk (S_N S) (tkf S sh i) s))] _ _ _
            refine aw_if_eq (tgt := 68) d_Coat_blocks_62 (by decide) (fun c62 => ?_) (fun c62 => ?_)
            · refine aw_iinc (v := nI ((s) + 1)) (L' := [some (.ref 1), some (.int sh), some (.int lane), some (.int i), some (.int v7), some (.int (nI ((s) + 1)))]) d_Coat_blocks_68 rfl (nI_1 _) ⟨by decide, rfl⟩ rfl ?_
              refine aw_goto (tgt := 20) d_Coat_blocks_71 (by decide) ?_
              first
                | (refine ih (s + 1) a3 a4 (by omega) (by omega) ?_
                   rw [← e0]
                   exact (if_neg (fun z => c42 (by rw [z.1]; rfl))).symm)
                | (refine ih (s + 1) b3 b4 (by omega) (by omega) ?_
                   rw [← e0]
                   exact (if_neg (fun z => by rw [ab_bl_0.mp c62] at z; cases z.2)).symm)
            · refine aw_iload d_Coat_blocks_65 rfl ?_
              refine aw_ireturn d_Coat_blocks_67 rfl rfl ?_
              refine ⟨_, S, rfl, ?_, hX1.gv b3 b4, Nat.le_refl _, fun k _ _ => by unfold HG; rw [ab_set_ne (by omega), ab_set_ne (by omega), ab_set_ne (by omega)]⟩
              unfold sp_blocks
              rw [t0, if_neg (by decide), ← e0]
              have hw9 : s &&& N_w (S_N S) < 64 := and_63 (show s < 64 by omega)
              exact congrArg (fun z => (z, S)) (if_pos ⟨(nI_eq (b := 0) (by omega) (by decide)).mp c42, ab_bl_1.mp c62⟩).symm
    have eh : HG (ab_set h 31 (.inl (6, g))) g3 g4 = ab_set h 31 (.inl (6, g)) := by unfold HG; rw [ab_set_eq (h := ab_set h 31 (.inl (6, g))) (a := 33) h3, ab_set_eq (h := ab_set h 31 (.inl (6, g))) (a := 34) h4]
    exact aw_heap eh (loop (2 ^ N_n (S_N S) - 1) 1 g3 g4 (by omega) (Nat.le_refl _) rfl)
  · refine aw_iload d_Coat_blocks_14 rfl ?_
    refine aw_ireturn d_Coat_blocks_16 rfl rfl ?_
    refine ⟨_, S, rfl, ?_, hX1, Nat.le_refl _, fun k _ _ => ab_set_ne (by omega)⟩
    unfold sp_blocks
    rw [if_pos (by rw [← ev7]; exact Int32.not_le.mp c11), ev7]
