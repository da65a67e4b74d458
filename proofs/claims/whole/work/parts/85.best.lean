/-- the next order, as the class goes on -/
def nxk (x : Nat → Nat) : Nat → Nat
  | 0 => 0
  | r + 1 => if x (r + 1) < x r then nxk x r else r + 1
def nxg (x : Nat → Nat) (k : Nat) : Nat → Nat
  | 0 => 0
  | g + 1 => if k + 1 < g + 1 ∧ x (g + 1) < x k then nxg x k g else g + 1
def nxr : Nat → (Nat → Nat) → Nat → Nat → (Nat → Nat)
  | 0, x, _, _ => x
  | f + 1, x, i, j => if i < j then nxr f (sw x i j) (i + 1) (j - 1) else x
def nxt (n : Nat) (x : Nat → Nat) : Nat → Nat := nxr 3 (sw x (nxk x (n - 1) - 1) (nxg x (nxk x (n - 1) - 1) (n - 1))) (nxk x (n - 1)) (n - 1)
def eq6 (x y : Nat → Nat) : Bool := (List.range 6).all (fun k => x k == y k)
def pls (n : Nat) : List (Nat → Nat) := pl6.filter (fun x => (List.range 6).all (fun k => decide (k < n) || decide (x k = k)))
def chk (n : Nat) : List (Nat → Nat) → Bool
  | a :: b :: l => decide (cd a n < cd b n) && !decide (nxk a (n - 1) = 0) && eq6 (nxt n a) b && chk n (b :: l)
  | [a] => decide (nxk a (n - 1) = 0)
  | [] => true
theorem chk_all : (List.range 7).all (fun n => chk n (pls n)) = true := by decide +kernel
theorem pls_mem {n : Nat} {x : Nat → Nat} (hx : Pm x) (hf : ∀ k, n ≤ k → x k = k) : x ∈ pls n := by
  refine List.mem_filter.mpr ⟨hx.mem, List.all_eq_true.mpr (fun k _ => ?_)⟩
  by_cases q : k < n
  · rw [decide_eq_true q]; rfl
  · rw [decide_eq_true (hf k (by omega)), Bool.or_true]
theorem chk_t {n : Nat} : ∀ l : List (Nat → Nat), chk n l = true → (∀ a t, l = a :: t → ∀ z ∈ l, cd a n ≤ cd z n) ∧ ∀ x ∈ l, (nxk x (n - 1) = 0 ∧ ∀ z ∈ l, cd z n ≤ cd x n) ∨ (¬ nxk x (n - 1) = 0 ∧ ∃ y ∈ l, eq6 (nxt n x) y = true ∧ cd x n < cd y n ∧ ∀ z ∈ l, cd z n ≤ cd x n ∨ cd y n ≤ cd z n)
  | [], _ => ⟨fun a t h => (by cases h), fun x hx => (by cases hx)⟩
  | [a], h => by
    have h : decide (nxk a (n - 1) = 0) = true := h
    refine ⟨fun b t e z hz => ?_, fun x hx => ?_⟩
    · cases e
      rw [List.mem_singleton.mp hz]; exact Nat.le_refl _
    · rw [List.mem_singleton.mp hx]
      exact Or.inl ⟨of_decide_eq_true h, fun z hz => by rw [List.mem_singleton.mp hz]; exact Nat.le_refl _⟩
  | a :: b :: l, h => by
    have h : (decide (cd a n < cd b n) && !decide (nxk a (n - 1) = 0) && eq6 (nxt n a) b && chk n (b :: l)) = true := h
    rw [Bool.and_eq_true, Bool.and_eq_true, Bool.and_eq_true, Bool.not_eq_true', decide_eq_true_eq, decide_eq_false_iff_not] at h
    obtain ⟨⟨⟨h1, h2⟩, h3⟩, h4⟩ := h
    obtain ⟨m1, m2⟩ := chk_t (b :: l) h4
    have mb := m1 b l rfl
    refine ⟨fun c t e z hz => ?_, fun x hx => ?_⟩
    · cases e
      rcases List.mem_cons.mp hz with e | e
      · rw [e]; exact Nat.le_refl _
      · have := mb z e; omega
    · rcases List.mem_cons.mp hx with e | e
      · rw [e]
        refine Or.inr ⟨h2, b, List.mem_cons_of_mem _ (List.mem_cons_self ..), h3, h1, fun z hz => ?_⟩
        rcases List.mem_cons.mp hz with e | e
        · rw [e]; exact Or.inl (Nat.le_refl _)
        · exact Or.inr (mb z e)
      · rcases m2 x e with ⟨k0, kz⟩ | ⟨k0, y, hy, k1, k2, k3⟩
        · refine Or.inl ⟨k0, fun z hz => ?_⟩
          rcases List.mem_cons.mp hz with e2 | e2
          · rw [e2]; have := mb x e; omega
          · exact kz z e2
        · refine Or.inr ⟨k0, y, List.mem_cons_of_mem _ hy, k1, k2, fun z hz => ?_⟩
          rcases List.mem_cons.mp hz with e2 | e2
          · rw [e2]; have := mb x e; exact Or.inl (by omega)
          · exact k3 z e2
theorem pls_in {n : Nat} : ∀ x, x ∈ pls n → ∀ k, n ≤ k → k < 6 → x k = k := by
  intro x hx k h1 h2
  have := List.all_eq_true.mp (List.mem_filter.mp hx).2 k (List.mem_range.mpr h2)
  rw [decide_eq_false (by omega), Bool.false_or] at this
  exact of_decide_eq_true this
theorem ct_next {P : Nat → Bool} {a b : Nat} (ha : P a = true) (hab : a < b) (hno : ∀ c, a < c → c < b → P c = false) : fb_ct P b = fb_ct P a + 1 := by
  have : ∀ k, a + 1 + k ≤ b → fb_ct P (a + 1 + k) = fb_ct P a + 1 := by
    intro k
    induction k with
    | zero => intro _; rw [Nat.add_zero, fb_ct_succ, if_pos ha]
    | succ k ih =>
      intro h
      rw [← Nat.add_assoc, fb_ct_succ, ih (by omega), hno _ (by omega) (by omega)]
      rfl
  have h := this (b - (a + 1)) (by omega)
  rw [show a + 1 + (b - (a + 1)) = b by omega] at h
  exact h
theorem nxk_le (x : Nat → Nat) : ∀ r, nxk x r ≤ r
  | 0 => Nat.le_refl _
  | r + 1 => by
    unfold nxk
    split
    · have := nxk_le x r; omega
    · exact Nat.le_refl _
theorem nxg_le (x : Nat → Nat) (k : Nat) : ∀ r, nxg x k r ≤ r
  | 0 => Nat.le_refl _
  | r + 1 => by
    unfold nxg
    split
    · have := nxg_le x k r; omega
    · exact Nat.le_refl _
theorem nxr_pm {n : Nat} (hn : n ≤ 6) : ∀ f (x : Nat → Nat) i j, Pm x → (∀ k, n ≤ k → x k = k) → j < n → Pm (nxr f x i j) ∧ ∀ k, n ≤ k → nxr f x i j k = k
  | 0, x, _, _, hx, hf, _ => ⟨hx, hf⟩
  | f + 1, x, i, j, hx, hf, hj => by
    unfold nxr
    by_cases q : i < j
    · rw [if_pos q]
      exact nxr_pm hn f _ _ _ (sw_pm hx (by omega) (by omega)) (sw_fx (by omega) hj hf) (by omega)
    · rw [if_neg q]; exact ⟨hx, hf⟩
theorem nxt_pm {n : Nat} (h0 : 1 ≤ n) (hn : n ≤ 6) {x : Nat → Nat} (hx : Pm x) (hf : ∀ k, n ≤ k → x k = k) : Pm (nxt n x) ∧ ∀ k, n ≤ k → nxt n x k = k := by
  have h1 := nxk_le x (n - 1)
  have h2 := nxg_le x (nxk x (n - 1) - 1) (n - 1)
  exact nxr_pm hn _ _ _ _ (sw_pm hx (by omega) (by omega)) (sw_fx (by omega) (by omega) hf) (by omega)
theorem okc_cd {n c : Nat} (hn : n ≤ 6) (hc : c < 6 ^ n) (h : okc n c = true) : prc n c ∈ pls n ∧ cd (prc n c) n = c := by
  obtain ⟨h1, h2⟩ := okc_pm hn h
  refine ⟨pls_mem h1 h2, ?_⟩
  rw [cd_prc hc n (Nat.le_refl _), Nat.sub_self, Nat.pow_zero, Nat.div_one]
theorem next_t {n : Nat} (h0 : 1 ≤ n) (hn : n ≤ 6) {x : Nat → Nat} (hx : Pm x) (hf : ∀ k, n ≤ k → x k = k) : (nxk x (n - 1) = 0 → num n x + 1 = TT n) ∧ (¬ nxk x (n - 1) = 0 → num n (nxt n x) = num n x + 1) := by
  have hc := List.all_eq_true.mp chk_all n (List.mem_range.mpr (by omega))
  obtain ⟨p1, p2, p3⟩ := pm_okc hn hx hf
  have hm := (chk_t _ hc).2 x (pls_mem hx hf)
  refine ⟨fun z => ?_, fun z => ?_⟩
  · rcases hm with ⟨_, hz⟩ | ⟨k0, _⟩
    · refine (ct_next p1 p2 (fun c h1 h2 => Bool.eq_false_iff.mpr (fun h3 => ?_))).symm
      obtain ⟨a, b⟩ := okc_cd hn h2 h3
      have := hz _ a
      omega
    · exact absurd z k0
  · rcases hm with ⟨k0, _⟩ | ⟨_, y, hy, k1, k2, k3⟩
    · exact absurd k0 z
    · have e : cd (nxt n x) n = cd y n := cd_cong (fun k hk => by
        have := List.all_eq_true.mp k1 k (List.mem_range.mpr (by omega))
        exact beq_iff_eq.mp this)
      obtain ⟨q1, q2⟩ := nxt_pm h0 hn hx hf
      obtain ⟨r1, r2, r3⟩ := pm_okc hn q1 q2
      unfold num
      rw [e]
      rw [e] at r2
      refine ct_next p1 k2 (fun c h1 h2 => Bool.eq_false_iff.mpr (fun h3 => ?_))
      obtain ⟨a, b⟩ := okc_cd hn (by omega) h3
      have := k3 _ a
      omega
theorem prm_next {n t : Nat} (h0 : 1 ≤ n) (hn : n ≤ 6) (ht : t < TT n) : (nxk (prm n t) (n - 1) = 0 → t + 1 = TT n) ∧ (¬ nxk (prm n t) (n - 1) = 0 → t + 1 < TT n ∧ prm n (t + 1) = nxt n (prm n t)) := by
  obtain ⟨a, b, c⟩ := prm_t hn ht
  have h := next_t h0 hn a b
  rw [c] at h
  refine ⟨h.1, fun z => ?_⟩
  have e := h.2 z
  obtain ⟨q1, q2⟩ := nxt_pm h0 hn a b
  obtain ⟨r1, r2⟩ := num_t hn q1 q2
  rw [e] at r1 r2
  exact ⟨r1, r2⟩
theorem prm_0 {n : Nat} (hn : n ≤ 6) : prm n 0 = fun k => k := by
  have h := (num_t hn id_pm (fun _ _ => rfl)).2
  have e : num n (fun k => k) = 0 := by
    have hc := List.all_eq_true.mp (show (List.range 7).all (fun n => decide (fb_ct (okc n) (cd (fun k => k) n) = 0)) = true by decide +kernel) n (List.mem_range.mpr (by omega))
    exact of_decide_eq_true hc
  rw [e] at h
  exact h
/-- the greatest harm of an order, and all together -/
def mxh (N : NS) (x : Nat → Nat) : Nat → Nat
  | 0 => 0
  | f + 1 => if mxh N x f < hrm N (N_ff N f) x (N_n N) then hrm N (N_ff N f) x (N_n N) else mxh N x f
def smh (N : NS) (x : Nat → Nat) (f : Nat) : Nat := fb_sm (fun f => hrm N (N_ff N f) x (N_n N)) f
theorem mxh_le {N : NS} (ok : N_ok N) {x : Nat → Nat} (hx : Pm x) : ∀ f, f ≤ N_fe N → mxh N x f ≤ 240
  | 0, _ => Nat.zero_le _
  | f + 1, h => by
    unfold mxh
    split
    · have := hrm_le ok (ok.fe f (by omega)) hx ok.1
      have := ok.1
      omega
    · exact mxh_le ok hx f (by omega)
theorem smh_le {N : NS} (ok : N_ok N) {x : Nat → Nat} (hx : Pm x) {f : Nat} (hf : f ≤ N_fe N) : smh N x f ≤ f * 240 := by
  rw [← fb_sm_const 240 f]
  refine fb_sm_le (fun k hk => ?_)
  have := hrm_le ok (ok.fe k (by omega)) hx ok.1
  have := ok.1
  show hrm N (N_ff N k) x (N_n N) ≤ 240
  omega
abbrev btr (a b c d : Nat) : Prop := a < c ∨ (a = c ∧ b < d)
def bst (N : NS) : Nat → Nat × Nat × Nat
  | 0 => (0, mxh N (prm (N_n N) 0) (N_fe N), smh N (prm (N_n N) 0) (N_fe N))
  | t + 1 => if btr (mxh N (prm (N_n N) t) (N_fe N)) (smh N (prm (N_n N) t) (N_fe N)) (bst N t).2.1 (bst N t).2.2 then (t, mxh N (prm (N_n N) t) (N_fe N), smh N (prm (N_n N) t) (N_fe N)) else bst N t
theorem bst_t {N : NS} (ok : N_ok N) : ∀ t, t ≤ TT (N_n N) → (bst N t).1 < TT (N_n N) ∧ (bst N t).2.1 ≤ 240 ∧ (bst N t).2.2 ≤ 1440
  | 0, _ => by
    have h := prm_t ok.1 (TT_le ok.1).2
    have := ok.fe6
    have := smh_le ok h.1 (Nat.le_refl (N_fe N))
    exact ⟨(TT_le ok.1).2, mxh_le ok h.1 _ (Nat.le_refl _), by show smh N (prm (N_n N) 0) (N_fe N) ≤ 1440; omega⟩
  | t + 1, ht => by
    unfold bst
    split
    · have h := prm_t ok.1 (show t < TT (N_n N) by omega)
      have := ok.fe6
      have := smh_le ok h.1 (Nat.le_refl (N_fe N))
      exact ⟨by show t < _; omega, mxh_le ok h.1 _ (Nat.le_refl _), by show smh N (prm (N_n N) t) (N_fe N) ≤ 1440; omega⟩
    · exact bst_t ok t (by omega)
theorem bst_1 (N : NS) : bst N 1 = bst N 0 := by
  show (if _ then _ else _) = _
  refine if_neg (fun h => ?_)
  rcases h with h | h
  · exact Nat.lt_irrefl _ h
  · exact Nat.lt_irrefl _ h.2
def sp_best (S : SS) (k : Int32) : Int32 × SS := if ir k (-2) (N_n (S_N S) - 1 : Int) then (if N_n (S_N S) = 0 ∨ N_fe (S_N S) = 0 then (-2, S) else if k = -1 then (nI (bst (S_N S) (TT (N_n (S_N S)))).2.1, S) else if k = -2 then (nI (bst (S_N S) (TT (N_n (S_N S)))).2.2, S) else (nI (prm (N_n (S_N S)) (bst (S_N S) (TT (N_n (S_N S)))).1 (cl k)), S)) else (-1, S)
