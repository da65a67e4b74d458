/-! no meeting brings coats nearer to their owners by more than its miles -/
theorem ffo_6 {N : NS} {x : Nat → Nat} {b n : Nat} (hn : n ≤ 6) (hx : Tb n x) : ffo N x b n = fb_sm (fun p => if b / 2 ^ x p % 2 = 1 then fr N p (x p) else 0) 6 := by
  have e1 : ffo N x b n = fb_sm (fun p => if b / 2 ^ x p % 2 = 1 then fr N p (x p) else 0) n := by
    refine fb_sm_cong (fun p hp => ?_)
    show (if ¬ x p = p ∧ b / 2 ^ x p % 2 = 1 then fr N p (x p) else 0) = if b / 2 ^ x p % 2 = 1 then fr N p (x p) else 0
    by_cases e : x p = p
    · rw [if_neg (fun z => z.1 e), e, fr_self]
      split <;> rfl
    · by_cases q : b / 2 ^ x p % 2 = 1
      · rw [if_pos ⟨e, q⟩, if_pos q]
      · rw [if_neg (fun z => q z.2), if_neg q]
  have e2 : fb_sm (fun k => if b / 2 ^ x (n + k) % 2 = 1 then fr N (n + k) (x (n + k)) else 0) (6 - n) ≤ (6 - n) * 0 := fb_sm_bound (fun k hk => by
    show (if b / 2 ^ x (n + k) % 2 = 1 then fr N (n + k) (x (n + k)) else 0) ≤ 0
    rw [hx.2 (n + k) (by omega), fr_self]
    split <;> exact Nat.le_refl _)
  have e3 := fb_sm_split (fun p => if b / 2 ^ x p % 2 = 1 then fr N p (x p) else 0) n (6 - n)
  rw [show n + (6 - n) = 6 by omega] at e3
  omega
theorem toI_6 {N : NS} {i s n : Nat} (hn : n ≤ 6) (hs : s < 2 ^ n) : toI N i s n = fb_sm (fun p => if s / 2 ^ p % 2 = 1 then fi N p i else 0) 6 := by
  have e2 : fb_sm (fun k => if s / 2 ^ (n + k) % 2 = 1 then fi N (n + k) i else 0) (6 - n) ≤ (6 - n) * 0 := fb_sm_bound (fun k hk => by
    show (if s / 2 ^ (n + k) % 2 = 1 then fi N (n + k) i else 0) ≤ 0
    rw [if_neg (b_out hs (by omega))]
    exact Nat.le_refl _)
  have e3 := fb_sm_split (fun p => if s / 2 ^ p % 2 = 1 then fi N p i else 0) n (6 - n)
  rw [show n + (6 - n) = 6 by omega] at e3
  have e1 : toI N i s n = fb_sm (fun p => if s / 2 ^ p % 2 = 1 then fi N p i else 0) n := rfl
  omega
theorem ffo_c {N : NS} {x : Nat → Nat} {b n : Nat} (hn : n ≤ 6) (hx : Tb n x) : ffo N x b n = fb_sm (fun c => if b / 2 ^ c % 2 = 1 then fr N (iv x c) c else 0) 6 := by
  rw [ffo_6 hn hx, ← Pm.sum hx.1 (fun c => if b / 2 ^ c % 2 = 1 then fr N (iv x c) c else 0)]
  refine fb_sm_cong (fun p hp => ?_)
  show (if b / 2 ^ x p % 2 = 1 then fr N p (x p) else 0) = if b / 2 ^ x p % 2 = 1 then fr N (iv x (x p)) (x p) else 0
  rw [(iv_t hx.1 hp).2.2]
theorem ffo_tri {N : NS} {x y : Nat → Nat} {b n : Nat} (hn : n ≤ 6) (hx : Tb n x) (hy : Tb n y) : ffo N x b n ≤ ffo N y b n + fb_sm (fun p => fr N p (iv y (x p))) 6 := by
  rw [ffo_c (N := N) (b := b) hn hx, ffo_c (N := N) (b := b) hn hy]
  have e : fb_sm (fun p => fr N p (iv y (x p))) 6 = fb_sm (fun c => fr N (iv x c) (iv y c)) 6 := by
    rw [← Pm.sum hx.1 (fun c => fr N (iv x c) (iv y c))]
    refine fb_sm_cong (fun p hp => ?_)
    show fr N p (iv y (x p)) = fr N (iv x (x p)) (iv y (x p))
    rw [(iv_t hx.1 hp).2.2]
  rw [e, ← fb_sm_add]
  refine fb_sm_le (fun c hc => ?_)
  show (if b / 2 ^ c % 2 = 1 then fr N (iv x c) c else 0) ≤ (if b / 2 ^ c % 2 = 1 then fr N (iv y c) c else 0) + fr N (iv x c) (iv y c)
  by_cases q : b / 2 ^ c % 2 = 1
  · rw [if_pos q, if_pos q]
    have := fr_tri N (iv x c) (iv y c) c
    omega
  · rw [if_neg q, if_neg q]
    omega
/-- a pair -/
theorem pair_tri {N : NS} {x : Nat → Nat} (hx : Pm x) {a c : Nat} (ha : a < 6) (hc : c < 6) (hac : a ≠ c) : fb_sm (fun p => fr N p (iv (sw x a c) (x p))) 6 ≤ 2 * fr N a c := by
  have hy := sw_pm hx ha hc
  have e : fb_sm (fun p => fr N p (iv (sw x a c) (x p))) 6 = fb_sm (fun p => (if p = a then fr N a c else 0) + (if p = c then fr N c a else 0)) 6 := by
    refine fb_sm_cong (fun p hp => ?_)
    show fr N p (iv (sw x a c) (x p)) = (if p = a then fr N a c else 0) + (if p = c then fr N c a else 0)
    by_cases pa : p = a
    · subst pa
      have z : sw x p c c = x p := by unfold sw; rw [ud_s]
      rw [← z, (iv_t hy hc).2.2, if_pos rfl, if_neg hac, Nat.add_zero]
    · by_cases pc : p = c
      · subst pc
        have z : sw x a p a = x p := by unfold sw; rw [ud_n hac, ud_s]
        rw [← z, (iv_t hy ha).2.2, if_neg pa, if_pos rfl]
        omega
      · have z : sw x a c p = x p := by unfold sw; rw [ud_n pc, ud_n pa]
        rw [← z, (iv_t hy hp).2.2, if_neg pa, if_neg pc, fr_self]
  rw [e, fb_sm_add, sm_one ha, sm_one hc, fr_sym N c a]
  omega
/-- at an inn -/
theorem inn_tri {N : NS} {x y : Nat → Nat} (hx : Pm x) (hy : Pm y) {i s n : Nat} (hn : n ≤ 6) (hs : s < 2 ^ n) (ho : ∀ p, p < 6 → ¬ s / 2 ^ p % 2 = 1 → y p = x p) : fb_sm (fun p => fr N p (iv y (x p))) 6 ≤ 2 * toI N i s n := by
  have hp : Pm (fun k => iv y (x k)) := hy.iv.comp hx
  have e : fb_sm (fun p => (if s / 2 ^ p % 2 = 1 then fi N p i else 0) + (if s / 2 ^ iv y (x p) % 2 = 1 then fi N (iv y (x p)) i else 0)) 6 = 2 * toI N i s n := by
    rw [fb_sm_add, Pm.sum hp (fun p => if s / 2 ^ p % 2 = 1 then fi N p i else 0), toI_6 hn hs]
    omega
  rw [← e]
  refine fb_sm_le (fun p hp6 => ?_)
  show fr N p (iv y (x p)) ≤ (if s / 2 ^ p % 2 = 1 then fi N p i else 0) + (if s / 2 ^ iv y (x p) % 2 = 1 then fi N (iv y (x p)) i else 0)
  obtain ⟨i1, i2, i3⟩ := iv_t hy (hx.1 p hp6)
  by_cases q : s / 2 ^ p % 2 = 1
  · have q2 : s / 2 ^ iv y (x p) % 2 = 1 := Classical.byContradiction (fun z => by
      have h1 := ho _ i2 z
      rw [i1] at h1
      have h2 := hx.2.1 _ _ hp6 i2 h1
      rw [← h2] at z
      exact z q)
    rw [if_pos q, if_pos q2]
    exact fr_fi N p _ i
  · have h1 := ho p hp6 q
    rw [← h1, (iv_t hy hp6).2.2, fr_self]
    exact Nat.zero_le _
/-- by post -/
theorem post_tri {N : NS} {x y : Nat → Nat} {b s n : Nat} (hn : n ≤ 6) (hx : Tb n x) (hy : Tb n y) (hr : ∀ p, p < 6 → s / 2 ^ p % 2 = 1 → s / 2 ^ x p % 2 = 1) (ho : ∀ p, p < 6 → ¬ s / 2 ^ p % 2 = 1 → y p = x p) : ffo N x b n ≤ ffo N y b n + ffo N x s n := by
  rw [ffo_6 (N := N) (b := b) hn hx, ffo_6 (N := N) (b := b) hn hy, ffo_6 (N := N) (b := s) hn hx, ← fb_sm_add]
  refine fb_sm_le (fun p hp => ?_)
  show (if b / 2 ^ x p % 2 = 1 then fr N p (x p) else 0) ≤ (if b / 2 ^ y p % 2 = 1 then fr N p (y p) else 0) + (if s / 2 ^ x p % 2 = 1 then fr N p (x p) else 0)
  by_cases q : s / 2 ^ p % 2 = 1
  · rw [if_pos (hr p hp q)]
    split <;> split <;> omega
  · rw [ho p hp q]
    omega
theorem stt_o {x : Nat → Nat} {s p : Nat} (h : ¬ s / 2 ^ p % 2 = 1) : stt x s p = x p := by
  unfold stt stq
  rw [if_neg (fun z => h z.2)]
/-- the heuristic never falls by more than what is gone -/
theorem cons_ {N : NS} (ok : N_ok N) {x : Nat → Nat} (hx : Tb (N_n N) x) {j : Nat} (h : sok N x j) (b : Nat) : ffo N x b (N_n N) ≤ sco N x j + ffo N (sto N x j) b (N_n N) := by
  have hn := ok.1
  have hy := sto_Tb ok hx h.2.1
  obtain ⟨w1, w2⟩ := who_t ok hx.1 hx.2 h.2.1
  have h3 := ffo_tri (N := N) (b := b) hn hx hy
  unfold sco mil
  by_cases k0 : mtA j / 10000 = 0
  · rw [if_pos k0]
    rcases w2 with ⟨_, a, c, _⟩ | ⟨z, _⟩ | ⟨z, _⟩
    · have e1 : mtA j % 10000 = mtA j := by omega
      have es : sto N x j = sw x (mtA j / 100) (mtA j % 100) := by
        unfold sto aft
        rw [if_pos k0]
      rw [e1] at a c ⊢
      have h4 := pair_tri (N := N) hx.1 (show mtA j / 100 < 6 by omega) (show mtA j % 100 < 6 by omega) (by omega)
      rw [← es] at h4
      omega
    · omega
    · omega
  · rw [if_neg k0]
    have es : sto N x j = stt x (who N x (mtA j)) := by
      unfold sto aft
      rw [if_neg k0]
    by_cases k1 : mtA j / 10000 = 1
    · rw [if_pos k1]
      have h4 := inn_tri (N := N) (i := mtA j % 10000 / 1000) hx.1 hy.1 hn w1 (fun p _ q => by rw [es]; exact stt_o q)
      omega
    · rw [if_neg k1]
      rcases w2 with ⟨z, _⟩ | ⟨z, _⟩ | ⟨_, c1, c2, _⟩
      · exact absurd z k0
      · exact absurd z k1
      · have hr := (rgb_t hx.1 (show mtA j % 10000 < 6 by omega)).2
        rw [← c2] at hr
        have h4 := post_tri (N := N) (b := b) hn hx hy (fun p hp q => (hr p hp).mpr q) (fun p _ q => by rw [es]; exact stt_o q)
        have h5 : 1 * ffo N x (who N x (mtA j)) (N_n N) ≤ N_ra N * ffo N x (who N x (mtA j)) (N_n N) := Nat.mul_le_mul_right _ ok.2.2.2.2.2.2.2.2.2.2.1
        omega
/-- those who won't keep what they have -/
theorem sto_w {N : NS} (ok : N_ok N) {x : Nat → Nat} (hx : Tb (N_n N) x) {j : Nat} (h : sok N x j) {p : Nat} (hw : N_w N / 2 ^ p % 2 = 1) : sto N x j p = x p := by
  obtain ⟨w1, w2⟩ := who_t ok hx.1 hx.2 h.2.1
  have hno : ¬ who N x (mtA j) / 2 ^ p % 2 = 1 := fun z => and_0 h.2.2 z hw
  unfold sto aft
  by_cases k0 : mtA j / 10000 = 0
  · rw [if_pos k0]
    rcases w2 with ⟨_, a, c, e⟩ | ⟨z, _⟩ | ⟨z, _⟩
    · have e1 : mtA j % 10000 = mtA j := by omega
      rw [e1] at a c e
      rw [e, b_orr, b_pow, b_pow] at hno
      unfold sw
      rw [ud_n (fun z => hno (Or.inr z.symm)), ud_n (fun z => hno (Or.inl z.symm))]
    · omega
    · omega
  · rw [if_neg k0]
    exact stt_o hno
theorem whd_eq {w : Nat} {x y : Nat → Nat} : ∀ n, (∀ p, w / 2 ^ p % 2 = 1 → y p = x p) → whd w y n = whd w x n
  | 0, _ => rfl
  | n + 1, h => by
    unfold whd
    by_cases q : w / 2 ^ n % 2 = 1
    · rw [if_pos q, if_pos q, whd_eq n h, h n q]
    · rw [if_neg q, if_neg q, whd_eq n h]
theorem bnd_sto {N : NS} (ok : N_ok N) {x : Nat → Nat} (hx : Tb (N_n N) x) {j : Nat} (h : sok N x j) : bnd (N_n N) (N_w N) (sto N x j) = bnd (N_n N) (N_w N) x := by
  unfold bnd
  rw [whd_eq (N_n N) (fun p hw => sto_w ok hx h hw)]
/-- where all is well, no miles must still be gone -/
theorem ffo_ow {N : NS} {x : Nat → Nat} {b n : Nat} (hn : n ≤ 6) (hx : Tb n x) (h : ow x b = true) : ffo N x b n = 0 := by
  have h1 : fb_sm (fun p => if b / 2 ^ x p % 2 = 1 then fr N p (x p) else 0) 6 ≤ 6 * 0 := fb_sm_bound (fun p hp => by
    show (if b / 2 ^ x p % 2 = 1 then fr N p (x p) else 0) ≤ 0
    by_cases q : b / 2 ^ x p % 2 = 1
    · have e := ow_iff.mp h (x p) (hx.1.1 p hp) q
      have e2 := hx.1.2.1 _ _ (hx.1.1 p hp) hp e
      rw [if_pos q, e2, fr_self]
      exact Nat.le_refl _
    · rw [if_neg q]
      exact Nat.le_refl _)
  rw [ffo_6 hn hx]
  omega
theorem WL_h {N : NS} (ok : N_ok N) {b : Nat} : ∀ js x m, Tb (N_n N) x → bnd (N_n N) (N_w N) x = b → WL N js x m → ffo N x b (N_n N) ≤ m
  | [], x, m, hx, e, h => by
    rw [ffo_ow ok.1 hx (by rw [← e]; exact h.1)]
    exact Nat.zero_le _
  | j :: js, x, m, hx, e, ⟨_, hs, m2, hw, em⟩ => by
    have h1 := WL_h ok (b := b) js _ m2 (sto_Tb ok hx hs.2.1) (by rw [bnd_sto ok hx hs]; exact e) hw
    have h2 := cons_ ok hx hs b
    omega
/-- tables by their ranks -/
def xr (r : Nat) : Nat → Nat := fun k => if k < 6 then (urk r).getD k 0 else k
theorem xr_rk {x : Nat → Nat} (hx : Pm x) : xr (rk x) = x := by
  funext k
  unfold xr
  rw [(rk_t hx).2]
  by_cases q : k < 6
  · rw [if_pos q]
    match k, q with
    | 0, _ => rfl
    | 1, _ => rfl
    | 2, _ => rfl
    | 3, _ => rfl
    | 4, _ => rfl
    | 5, _ => rfl
    | k + 6, q => exact absurd q (by omega)
  · rw [if_neg q, hx.2.2 k (by omega)]
