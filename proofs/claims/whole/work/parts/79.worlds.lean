theorem ct_six (P : Nat → Bool) : ∀ m, fb_ct P (6 * m) = fb_sm (fun b => fb_ct (fun a => P (6 * a + b)) m) 6
  | 0 => rfl
  | m + 1 => by
    have ih := ct_six P m
    rw [show 6 * (m + 1) = 6 * m + 1 + 1 + 1 + 1 + 1 + 1 by omega]
    simp only [fb_ct_succ, fb_sm] at ih ⊢
    rw [ih]
    simp only [Nat.add_assoc, Nat.reduceAdd, Nat.add_zero]
    omega
theorem ct_nth {P R : Nat → Bool} {M : Nat} : ∀ {m : Nat}, m ≤ M → fb_ct (fun c => P c && R c) m = fb_ct (fun t => R (nth P M t)) (fb_ct P m)
  | 0, _ => rfl
  | m + 1, h => by
    rw [fb_ct_succ, ct_nth (M := M) (m := m) (by omega), fb_ct_succ]
    by_cases q : P m = true
    · have lt := ct_lt q (show m < M by omega)
      have e := nth_t lt
      have e2 := ct_inj e.2.1 q e.2.2
      rw [if_pos q, fb_ct_succ, e2, q, Bool.true_and]
    · rw [if_neg q, Bool.eq_false_iff.mpr q, Bool.false_and]
      rfl
/-- ways to give each of the first k a coat that he may have, so that a set is given -/
def Wf (al : Nat → Nat) : Nat → Nat → Nat
  | 0, s => if s = 0 then 1 else 0
  | k + 1, s => fb_sm (fun b => if s / 2 ^ b % 2 = 1 ∧ al k / 2 ^ b % 2 = 1 then Wf al k (s - 2 ^ b) else 0) 6
def pr (al : Nat → Nat) : Nat → Nat → Nat → Bool
  | 0, s, _ => decide (s = 0)
  | k + 1, s, c => (decide (s / 2 ^ (c % 6) % 2 = 1) && decide (al k / 2 ^ (c % 6) % 2 = 1)) && pr al k (s - 2 ^ (c % 6)) (c / 6)
theorem ct_false : ∀ m, fb_ct (fun _ => false) m = 0
  | 0 => rfl
  | m + 1 => by rw [fb_ct_succ, ct_false m]; rfl
theorem pr_ct (al : Nat → Nat) : ∀ k s, fb_ct (pr al k s) (6 ^ k) = Wf al k s
  | 0, s => by
    show fb_ct (pr al 0 s) 1 = if s = 0 then 1 else 0
    show 0 + (if decide (s = 0) = true then 1 else 0) = _
    by_cases q : s = 0
    · rw [if_pos q, decide_eq_true q]; rfl
    · rw [if_neg q, decide_eq_false q]; rfl
  | k + 1, s => by
    rw [Nat.pow_succ, Nat.mul_comm, ct_six]
    show _ = fb_sm (fun b => if s / 2 ^ b % 2 = 1 ∧ al k / 2 ^ b % 2 = 1 then Wf al k (s - 2 ^ b) else 0) 6
    refine fb_sm_cong (fun b hb => ?_)
    have e : ∀ a, pr al (k + 1) s (6 * a + b) = ((decide (s / 2 ^ b % 2 = 1) && decide (al k / 2 ^ b % 2 = 1)) && pr al k (s - 2 ^ b) a) := by
      intro a
      unfold pr
      rw [show (6 * a + b) % 6 = b by omega, show (6 * a + b) / 6 = a by omega]
      cases k <;> rfl
    rw [fb_ct_cong (fun a _ => e a)]
    by_cases q : s / 2 ^ b % 2 = 1 ∧ al k / 2 ^ b % 2 = 1
    · rw [if_pos q, ← pr_ct al k]
      refine fb_ct_cong (fun a _ => ?_)
      rw [decide_eq_true q.1, decide_eq_true q.2]
      rfl
    · rw [if_neg q]
      rw [← ct_false (6 ^ k)]
      refine fb_ct_cong (fun a _ => ?_)
      rw [show (decide (s / 2 ^ b % 2 = 1) && decide (al k / 2 ^ b % 2 = 1)) = false by
        rw [← Bool.decide_and]; exact decide_eq_false q]
      rfl
theorem dgt_d (c i : Nat) : dgt (c / 6) i = dgt c (i + 1) := by
  unfold dgt
  rw [Nat.div_div_eq_div_mul, Nat.pow_succ, Nat.mul_comm 6]
theorem dgt_00 (c : Nat) : dgt c 0 = c % 6 := by unfold dgt; rw [Nat.pow_zero, Nat.div_one]
theorem bs_all : (List.range 64).all (fun s => (List.range 6).all (fun b => !decide (s / 2 ^ b % 2 = 1) || (decide (2 ^ b ≤ s) && decide (pop (s - 2 ^ b) + 1 = pop s) && decide ((s - 2 ^ b) ||| 2 ^ b = s) && decide (s - 2 ^ b < 64) && (List.range 6).all (fun q => decide ((s - 2 ^ b) / 2 ^ q % 2 = 1) == (decide (s / 2 ^ q % 2 = 1) && !decide (q = b)))))) = true := by decide +kernel
theorem bs_t {s b : Nat} (hs : s < 64) (hb : b < 6) (h : s / 2 ^ b % 2 = 1) : 2 ^ b ≤ s ∧ pop (s - 2 ^ b) + 1 = pop s ∧ (s - 2 ^ b) ||| 2 ^ b = s ∧ s - 2 ^ b < 64 ∧ ∀ q, q < 6 → ((s - 2 ^ b) / 2 ^ q % 2 = 1 ↔ s / 2 ^ q % 2 = 1 ∧ ¬ q = b) := by
  have z := List.all_eq_true.mp (List.all_eq_true.mp bs_all s (List.mem_range.mpr hs)) b (List.mem_range.mpr hb)
  rw [decide_eq_true h, Bool.not_true, Bool.false_or] at z
  simp only [Bool.and_eq_true, decide_eq_true_eq, List.all_eq_true, List.mem_range] at z
  refine ⟨z.1.1.1.1, z.1.1.1.2, z.1.1.2, z.1.2, fun q hq => ?_⟩
  have := beq_iff_eq.mp (z.2 q hq)
  have this := Bool.eq_iff_iff.mp this
  rw [Bool.and_eq_true, Bool.not_eq_true', decide_eq_true_eq, decide_eq_true_eq, decide_eq_false_iff_not] at this
  exact this
theorem sn_f {x : Nat → Nat} : ∀ k, sn x (k + 1) = 2 ^ x 0 ||| sn (fun i => x (i + 1)) k
  | 0 => by show 0 ||| 2 ^ x 0 = 2 ^ x 0 ||| 0; rw [Nat.zero_or, Nat.or_zero]
  | k + 1 => by
    show sn x (k + 1) ||| 2 ^ x (k + 1) = 2 ^ x 0 ||| (sn (fun i => x (i + 1)) k ||| 2 ^ x (k + 1))
    rw [sn_f k, Nat.or_assoc]
theorem pr_iff (al : Nat → Nat) : ∀ k s c, s < 64 → (pr al k s c = true ↔ (∀ i, i < k → al (k - 1 - i) / 2 ^ dgt c i % 2 = 1) ∧ (∀ i, i < k → ∀ q, q < i → dgt c q ≠ dgt c i) ∧ sn (dgt c) k = s)
  | 0, s, c, _ => by
    unfold pr
    rw [decide_eq_true_eq]
    exact ⟨fun h => ⟨fun i hi => absurd hi (Nat.not_lt_zero _), fun i hi => absurd hi (Nat.not_lt_zero _), h.symm⟩, fun h => h.2.2.symm⟩
  | k + 1, s, c, hs => by
    have hb : c % 6 < 6 := Nat.mod_lt _ (by decide)
    unfold pr
    rw [Bool.and_eq_true, Bool.and_eq_true, decide_eq_true_eq, decide_eq_true_eq]
    have ef : (fun i => dgt c (i + 1)) = dgt (c / 6) := funext fun i => (dgt_d c i).symm
    have es : sn (dgt c) (k + 1) = 2 ^ (c % 6) ||| sn (dgt (c / 6)) k := by rw [sn_f, ef, dgt_00]
    have l6 : sn (dgt (c / 6)) k < 64 := sn_lt k (fun i _ => dgt_lt _ _)
    constructor
    · intro ⟨⟨h1, h2⟩, h3⟩
      have bt := bs_t hs hb h1
      obtain ⟨a1, a2, a3⟩ := (pr_iff al k _ _ bt.2.2.2.1).mp h3
      refine ⟨fun i hi => ?_, fun i hi q hq => ?_, ?_⟩
      · match i, hi with
        | 0, _ => rw [dgt_00]; exact h2
        | i + 1, hi =>
          have := a1 i (by omega)
          rw [dgt_d] at this
          rw [show k + 1 - 1 - (i + 1) = k - 1 - i by omega]
          exact this
      · match i, hi, q, hq with
        | 0, _, q, hq => exact absurd hq (Nat.not_lt_zero _)
        | i + 1, hi, 0, _ =>
          intro e
          have := (sn_bit (dgt (c / 6)) (dgt (c / 6) i) k).mpr ⟨i, by omega, rfl⟩
          rw [a3, dgt_d, ← e, dgt_00] at this
          exact ((bt.2.2.2.2 _ hb).mp this).2 rfl
        | i + 1, hi, q + 1, hq =>
          have := a2 i (by omega) q (by omega)
          rw [dgt_d, dgt_d] at this
          exact this
      · rw [es, a3, Nat.or_comm]; exact bt.2.2.1
    · intro ⟨a1, a2, a3⟩
      have h1 : s / 2 ^ (c % 6) % 2 = 1 := by
        rw [← a3]
        exact (sn_bit _ _ _).mpr ⟨0, by omega, dgt_00 c⟩
      have bt := bs_t hs hb h1
      refine ⟨⟨h1, by have := a1 0 (by omega); rw [dgt_00] at this; exact this⟩, (pr_iff al k _ _ bt.2.2.2.1).mpr ⟨fun i hi => ?_, fun i hi q hq => ?_, ?_⟩⟩
      · have := a1 (i + 1) (by omega)
        rw [dgt_d]
        rw [show k + 1 - 1 - (i + 1) = k - 1 - i by omega] at this
        exact this
      · rw [dgt_d, dgt_d]
        exact a2 (i + 1) (by omega) (q + 1) (by omega)
      · apply b_ext l6 bt.2.2.2.1
        intro q hq
        rw [bt.2.2.2.2 q hq, ← a3, es, b_orr, b_pow]
        constructor
        · intro h
          refine ⟨Or.inr h, fun e => ?_⟩
          obtain ⟨r, hr, er⟩ := (sn_bit _ _ _).mp h
          rw [dgt_d] at er
          exact a2 (r + 1) (by omega) 0 (by omega) (by rw [dgt_00, er, e])
        · intro ⟨h1, h2⟩
          rcases h1 with h1 | h1
          · exact absurd h1.symm h2
          · exact h1
/-- whether a table gives each what he may have -/
def aok (n : Nat) (al : Nat → Nat) (x : Nat → Nat) : Bool := (List.range n).all (fun p => decide (al p / 2 ^ x p % 2 = 1))
theorem aok_iff {n : Nat} {al : Nat → Nat} {x : Nat → Nat} : aok n al x = true ↔ ∀ p, p < n → al p / 2 ^ x p % 2 = 1 := by
  unfold aok
  simp only [List.all_eq_true, List.mem_range, decide_eq_true_eq]
def wc (n : Nat) (al : Nat → Nat) : Nat := fb_ct (fun t => aok n al (prm n t)) (TT n)
theorem wc_W {n : Nat} (hn : n ≤ 6) (al : Nat → Nat) : Wf al n (2 ^ n - 1) = wc n al := by
  rw [← pr_ct]
  have e : ∀ c, pr al n (2 ^ n - 1) c = (okc n c && aok n al (prc n c)) := by
    intro c
    rw [Bool.eq_iff_iff, pr_iff al n _ c (b_63 n hn), Bool.and_eq_true, aok_iff]
    unfold okc
    rw [okd_iff]
    constructor
    · intro ⟨a1, a2, a3⟩
      have lt : ∀ i, i < n → dgt c i < n := fun i hi => by
        have := (sn_bit (dgt c) (dgt c i) n).mpr ⟨i, hi, rfl⟩
        rw [a3, b_low] at this
        exact this
      refine ⟨fun i hi => ⟨lt i hi, a2 i hi⟩, fun p hp => ?_⟩
      unfold prc
      rw [if_pos hp]
      have := a1 (n - 1 - p) (by omega)
      rw [show n - 1 - (n - 1 - p) = p by omega] at this
      exact this
    · intro ⟨a1, a2⟩
      refine ⟨fun i hi => ?_, fun i hi => (a1 i hi).2, (sn_all hn (fun k hk => (a1 k hk).1)).mpr (fun a b hab hb => (a1 b hb).2 a hab)⟩
      have := a2 (n - 1 - i) (by omega)
      unfold prc at this
      rw [if_pos (by omega), show n - 1 - (n - 1 - i) = i by omega] at this
      exact this
  rw [fb_ct_cong (fun c _ => e c), ct_nth (Nat.le_refl _)]
  rfl
theorem wc_cong {n : Nat} (hn : n ≤ 6) {al al2 : Nat → Nat} (h : ∀ p, p < n → ∀ b, b < n → (al p / 2 ^ b % 2 = 1 ↔ al2 p / 2 ^ b % 2 = 1)) : wc n al = wc n al2 := by
  refine fb_ct_cong (fun t ht => ?_)
  have hp := prm_t hn ht
  rw [Bool.eq_iff_iff, aok_iff, aok_iff]
  constructor
  · intro z p hpn
    exact (h p hpn _ (hp.1.in hn hp.2.1 hpn)).mp (z p hpn)
  · intro z p hpn
    exact (h p hpn _ (hp.1.in hn hp.2.1 hpn)).mpr (z p hpn)
/-- how many worlds there are, and how many in which one has a coat -/
def ww (N : NS) : Nat := wc (N_n N) (N_ma N)
def wb (N : NS) (p c : Nat) : Nat := fb_ct (fun t => aok (N_n N) (N_ma N) (prm (N_n N) t) && decide (prm (N_n N) t p = c)) (TT (N_n N))
theorem wb_W {N : NS} (hn : N_n N ≤ 6) {p c : Nat} (hp : p < N_n N) {al : Nat → Nat} (h : ∀ k, k < N_n N → ∀ b, b < N_n N → (al k / 2 ^ b % 2 = 1 ↔ N_ma N k / 2 ^ b % 2 = 1)) : wc (N_n N) (ud al p (al p &&& 2 ^ c)) = wb N p c := by
  refine fb_ct_cong (fun t ht => ?_)
  have hq := prm_t hn ht
  rw [Bool.eq_iff_iff, aok_iff, Bool.and_eq_true, aok_iff, decide_eq_true_eq]
  constructor
  · intro z
    have zp := z p hp
    rw [show ud al p (al p &&& 2 ^ c) p = al p &&& 2 ^ c from if_pos rfl, b_and, b_pow] at zp
    refine ⟨fun k hk => ?_, zp.2.symm⟩
    by_cases e : k = p
    · subst e; exact (h k hk _ (hq.1.in hn hq.2.1 hk)).mp zp.1
    · have := z k hk
      rw [show ud al p (al p &&& 2 ^ c) k = al k from if_neg e] at this
      exact (h k hk _ (hq.1.in hn hq.2.1 hk)).mp this
  · intro ⟨z1, z2⟩ k hk
    by_cases e : k = p
    · subst e
      rw [show ud al k (al k &&& 2 ^ c) k = al k &&& 2 ^ c from if_pos rfl, b_and, b_pow]
      exact ⟨(h k hk _ (hq.1.in hn hq.2.1 hk)).mpr (z1 k hk), z2.symm⟩
    · rw [show ud al p (al p &&& 2 ^ c) k = al k from if_neg e]
      exact (h k hk _ (hq.1.in hn hq.2.1 hk)).mpr (z1 k hk)
theorem wb_le {N : NS} (hn : N_n N ≤ 6) (p c : Nat) : wb N p c ≤ 720 := Nat.le_trans (fb_ct_le _ _) (TT_le hn).1
theorem ww_le {N : NS} (hn : N_n N ≤ 6) : ww N ≤ 720 := Nat.le_trans (fb_ct_le _ _) (TT_le hn).1
def psb (N : NS) (p : Nat) : Nat → Nat
  | 0 => 0
  | c + 1 => if 0 < wb N p c then psb N p c ||| 2 ^ c else psb N p c
theorem psb_lt (N : NS) (p : Nat) : ∀ c, c ≤ 6 → psb N p c < 64
  | 0, _ => (show 0 < 64 by decide)
  | c + 1, h => by
    unfold psb
    split
    · exact b_or (k := 6) (psb_lt N p c (by omega)) (p6_lt (by omega))
    · exact psb_lt N p c (by omega)
def lwm (N : NS) (p : Nat) : Nat → Nat
  | 0 => 0
  | c + 1 => if lwm N p c < wb N p c then wb N p c else lwm N p c
theorem lwm_le {N : NS} (hn : N_n N ≤ 6) (p : Nat) : ∀ c, lwm N p c ≤ 720
  | 0 => Nat.zero_le _
  | c + 1 => by
    unfold lwm
    split
    · exact wb_le hn p c
    · exact lwm_le hn p c
def nxb (N : NS) : Nat → Nat × Nat
  | 0 => (0, lwm N 0 (N_n N))
  | p + 1 => if lwm N p (N_n N) < (nxb N p).2 then (p, lwm N p (N_n N)) else nxb N p
theorem nxb_le {N : NS} (hn : N_n N ≤ 6) : ∀ p, (nxb N p).2 ≤ 720
  | 0 => lwm_le hn 0 _
  | p + 1 => by
    unfold nxb
    split
    · exact lwm_le hn p _
    · exact nxb_le hn p
def sp_may (S : SS) (x w : Int32) : Int32 × SS := if ir x 0 (N_n (S_N S) - 1 : Int) ∧ ir w 0 1 then (if w = 0 then (nI (N_ma (S_N S) (cl x)), S) else (nI (psb (S_N S) (cl x) (N_n (S_N S))), S)) else (-1, S)
def sp_worlds (S : SS) : Int32 × SS := (nI (ww (S_N S)), S)
def sp_sure (S : SS) (x : Int32) : Int32 × SS := if ir x 0 (N_n (S_N S) - 1 : Int) then (if pop (psb (S_N S) (cl x) (N_n (S_N S))) = 1 then (nI (tz (psb (S_N S) (cl x) (N_n (S_N S)))), S) else (-4, S)) else (-1, S)
def sp_next (S : SS) (w : Int32) : Int32 × SS := if ir w 0 1 then (if N_n (S_N S) = 0 then (-2, S) else if ww (S_N S) = 0 then (-4, S) else if w = 0 then (nI (nxb (S_N S) (N_n (S_N S))).1, S) else (nI (nxb (S_N S) (N_n (S_N S))).2, S)) else (-1, S)
/-- the class' sums: what is added till the set G is gone on from -/
def wp (al : Nat → Nat) (G s : Nat) : Nat := fb_sm (fun b => if s / 2 ^ b % 2 = 1 ∧ al (pop s - 1) / 2 ^ b % 2 = 1 ∧ s - 2 ^ b < G then Wf al (pop s - 1) (s - 2 ^ b) else 0) 6
def wz (al : Nat → Nat) (G s : Nat) : Nat := if s = 0 then 1 else wp al G s
theorem wz_G (al : Nat → Nat) {G s : Nat} (hs : s < 64) (h : s ≤ G) : wz al G s = Wf al (pop s) s := by
  unfold wz
  by_cases z : s = 0
  · subst z; rfl
  · rw [if_neg z]
    obtain ⟨b, hb, hbit⟩ := s_ne hs z
    obtain ⟨k, ek⟩ : ∃ k, pop s = k + 1 := ⟨pop (s - 2 ^ b), (bs_t hs hb hbit).2.1.symm⟩
    unfold wp
    rw [ek]
    show _ = fb_sm (fun b => if s / 2 ^ b % 2 = 1 ∧ al k / 2 ^ b % 2 = 1 then Wf al k (s - 2 ^ b) else 0) 6
    refine fb_sm_cong (fun b hb => ?_)
    show (if s / 2 ^ b % 2 = 1 ∧ al k / 2 ^ b % 2 = 1 ∧ s - 2 ^ b < G then Wf al k (s - 2 ^ b) else 0) = _
    by_cases q : s / 2 ^ b % 2 = 1 ∧ al k / 2 ^ b % 2 = 1
    · have := (bs_t hs hb q.1).1
      have := Nat.two_pow_pos b
      rw [if_pos q, if_pos ⟨q.1, q.2, by omega⟩]
    · rw [if_neg q, if_neg (fun w => q ⟨w.1, w.2.1⟩)]
theorem sm_0 : ∀ n, fb_sm (fun _ => 0) n = 0
  | 0 => rfl
  | n + 1 => by rw [fb_sm_succ, sm_0 n]
theorem sm_one {c X : Nat} : ∀ {n : Nat}, c < n → fb_sm (fun b => if b = c then X else 0) n = X
  | 0, h => absurd h (Nat.not_lt_zero _)
  | n + 1, h => by
    rw [fb_sm_succ]
    by_cases e : n = c
    · subst e
      rw [if_pos rfl, fb_sm_cong (g := fun _ => 0) (fun k hk => if_neg (by omega)), sm_0, Nat.zero_add]
    · rw [if_neg e, sm_one (by omega), Nat.add_zero]
theorem wz_hit (al : Nat → Nat) {G s c : Nat} (hs : s < 64) (hG : G < 64) (hc : c < 6) (h1 : s / 2 ^ c % 2 = 1) (h2 : s - 2 ^ c = G) (h3 : al (pop G) / 2 ^ c % 2 = 1) : wz al (G + 1) s = wz al G s + Wf al (pop G) G := by
  have bt := bs_t hs hc h1
  have s0 : ¬ s = 0 := fun z => by have := Nat.two_pow_pos c; omega
  unfold wz
  rw [if_neg s0, if_neg s0]
  have ep : pop s - 1 = pop G := by rw [← h2]; omega
  unfold wp
  rw [ep]
  have e : ∀ b, b < 6 → (if s / 2 ^ b % 2 = 1 ∧ al (pop G) / 2 ^ b % 2 = 1 ∧ s - 2 ^ b < G + 1 then Wf al (pop G) (s - 2 ^ b) else 0) = (if s / 2 ^ b % 2 = 1 ∧ al (pop G) / 2 ^ b % 2 = 1 ∧ s - 2 ^ b < G then Wf al (pop G) (s - 2 ^ b) else 0) + (if b = c then Wf al (pop G) G else 0) := by
    intro b hb
    by_cases e : b = c
    · subst e
      rw [if_pos ⟨h1, h3, by omega⟩, if_neg (fun w => by omega), if_pos rfl, h2, Nat.zero_add]
    · rw [show (if b = c then Wf al (pop G) G else 0) = 0 from if_neg e, Nat.add_zero]
      by_cases q : s / 2 ^ b % 2 = 1
      · have ne : ¬ s - 2 ^ b = G := fun z => by
          have b2 := bs_t hs hb q
          have : (2 : Nat) ^ b = 2 ^ c := by omega
          have h9 := (b_pow b c).mp (by rw [this]; exact (b_pow c c).mpr rfl)
          exact e h9
        by_cases q2 : al (pop G) / 2 ^ b % 2 = 1 ∧ s - 2 ^ b < G
        · rw [if_pos ⟨q, q2.1, by omega⟩, if_pos ⟨q, q2⟩]; rfl
        · rw [if_neg (fun w => q2 ⟨w.2.1, by omega⟩), if_neg (fun w => q2 w.2)]
      · rw [if_neg (fun w => q w.1), if_neg (fun w => q w.1)]
  rw [fb_sm_cong e, fb_sm_add, sm_one hc]
theorem wz_no (al : Nat → Nat) {G s : Nat} (hs : s < 64) (hno : ∀ c, c < 6 → s / 2 ^ c % 2 = 1 → s - 2 ^ c = G → ¬ al (pop G) / 2 ^ c % 2 = 1) : wz al (G + 1) s = wz al G s := by
  unfold wz
  by_cases s0 : s = 0
  · rw [if_pos s0, if_pos s0]
  · rw [if_neg s0, if_neg s0]
    refine fb_sm_cong (fun b hb => ?_)
    show (if s / 2 ^ b % 2 = 1 ∧ al (pop s - 1) / 2 ^ b % 2 = 1 ∧ s - 2 ^ b < G + 1 then Wf al (pop s - 1) (s - 2 ^ b) else 0) = (if s / 2 ^ b % 2 = 1 ∧ al (pop s - 1) / 2 ^ b % 2 = 1 ∧ s - 2 ^ b < G then Wf al (pop s - 1) (s - 2 ^ b) else 0)
    by_cases q : s / 2 ^ b % 2 = 1 ∧ al (pop s - 1) / 2 ^ b % 2 = 1
    · by_cases z : s - 2 ^ b = G
      · have bt := bs_t hs hb q.1
        have ep : pop s - 1 = pop G := by rw [← z]; omega
        exact absurd (by rw [← ep]; exact q.2) (hno b hb q.1 z)
      · by_cases r : s - 2 ^ b < G
        · rw [if_pos ⟨q.1, q.2, by omega⟩, if_pos ⟨q.1, q.2, r⟩]
        · rw [if_neg (fun w => by omega), if_neg (fun w => r w.2.2)]
    · rw [if_neg (fun w => q ⟨w.1, w.2.1⟩), if_neg (fun w => q ⟨w.1, w.2.1⟩)]
theorem wz_0 (al : Nat → Nat) (s : Nat) : wz al 0 s = if s = 0 then 1 else 0 := by
  unfold wz
  by_cases s0 : s = 0
  · rw [if_pos s0, if_pos s0]
  · rw [if_neg s0, if_neg s0]
    unfold wp
    rw [fb_sm_cong (g := fun _ => 0) (fun k hk => if_neg (fun w => absurd w.2.2 (Nat.not_lt_zero _))), sm_0]
theorem pop_low : ∀ n, n < 7 → pop (2 ^ n - 1) = n := by decide
theorem pop_in_all : (List.range 7).all (fun n => (List.range (2 ^ n - 1)).all (fun s => decide (pop s < n))) = true := by decide +kernel
theorem pop_in {n s : Nat} (hn : n ≤ 6) (hs : s < 2 ^ n - 1) : pop s < n := by
  have h := List.all_eq_true.mp (List.all_eq_true.mp pop_in_all n (List.mem_range.mpr (by omega))) s (List.mem_range.mpr hs)
  exact of_decide_eq_true h
/-- the row of sums behind giving one more -/
def gv (g : Nat → Int32) (G C j : Nat) : Nat → Int32 := fun s => if ∃ c, c < j ∧ C / 2 ^ c % 2 = 1 ∧ s = G ||| 2 ^ c then g s + g G else g s
theorem or_ne {G c : Nat} (h : ¬ G / 2 ^ c % 2 = 1) : ¬ G = G ||| 2 ^ c := fun e => h (by rw [e, b_orr, b_pow]; exact Or.inr rfl)
theorem or_inj {G c d : Nat} (h : ¬ G / 2 ^ c % 2 = 1) (e : G ||| 2 ^ c = G ||| 2 ^ d) : c = d := by
  have : (G ||| 2 ^ c) / 2 ^ c % 2 = 1 := (b_orr _ _ _).mpr (Or.inr ((b_pow _ _).mpr rfl))
  rw [e, b_orr, b_pow] at this
  rcases this with z | z
  · exact absurd z h
  · exact z.symm
theorem gv_0 (g : Nat → Int32) (G C : Nat) : gv g G C 0 = g := funext fun s => if_neg (fun ⟨c, h, _⟩ => absurd h (Nat.not_lt_zero _))
theorem gv_n {g : Nat → Int32} {G C j : Nat} (h : ¬ C / 2 ^ j % 2 = 1) : gv g G C (j + 1) = gv g G C j := by
  funext s
  unfold gv
  by_cases q : ∃ c, c < j ∧ C / 2 ^ c % 2 = 1 ∧ s = G ||| 2 ^ c
  · obtain ⟨c, h1, h2⟩ := q
    rw [if_pos ⟨c, by omega, h2⟩, if_pos ⟨c, h1, h2⟩]
  · rw [if_neg q, if_neg]
    intro ⟨c, h1, h2, h3⟩
    by_cases e : c = j
    · subst e; exact h h2
    · exact q ⟨c, by omega, h2, h3⟩
theorem gv_y {g : Nat → Int32} {G C j : Nat} (hd : ∀ c, C / 2 ^ c % 2 = 1 → ¬ G / 2 ^ c % 2 = 1) (h : C / 2 ^ j % 2 = 1) : upd (gv g G C j) (G ||| 2 ^ j) (gv g G C j (G ||| 2 ^ j) + gv g G C j G) = gv g G C (j + 1) := by
  have e1 : gv g G C j (G ||| 2 ^ j) = g (G ||| 2 ^ j) := if_neg (fun ⟨c, h1, h2, h3⟩ => by have := or_inj (hd j h) h3; omega)
  have e2 : gv g G C j G = g G := if_neg (fun ⟨c, h1, h2, h3⟩ => or_ne (hd c h2) h3)
  rw [e1, e2]
  funext s
  by_cases e : s = G ||| 2 ^ j
  · subst e
    rw [pk_us]
    exact (if_pos ⟨j, by omega, h, rfl⟩).symm
  · rw [pk_un e]
    unfold gv
    by_cases q : ∃ c, c < j ∧ C / 2 ^ c % 2 = 1 ∧ s = G ||| 2 ^ c
    · obtain ⟨c, h1, h2⟩ := q
      rw [if_pos ⟨c, h1, h2⟩, if_pos ⟨c, by omega, h2⟩]
    · rw [if_neg q, if_neg]
      intro ⟨c, h1, h2, h3⟩
      by_cases e' : c = j
      · subst e'; exact e h3
      · exact q ⟨c, by omega, h2, h3⟩
