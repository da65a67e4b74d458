/-! every call keeps the states what they must be -/
theorem sk_N {S : SS} (ok : S_ok S) {N : NS} (h : N_ok N) : S_ok (S_N_ S N) := ⟨h, ok.2⟩
theorem cl_lt {x : Int32} {lo hi : Int} (h : ir x lo hi) (h0 : 0 ≤ lo) {n : Nat} (hn : hi < n) : cl x < n := by
  have h1 := cl_int (x := x) (by have := h.1; omega)
  have h2 := h.2
  omega
theorem udk_lt {f : Nat → Nat} {n b : Nat} (h : ∀ k, k < n → f k < b) {j v : Nat} (hv : v < b) : ∀ k, k < n → ud f j v k < b := fun k hk => by
  by_cases e : k = j
  · rw [e, ud_s]; exact hv
  · rw [ud_n e]; exact h k hk
theorem k_person {S : SS} (ok : S_ok S) (x y v : Int32) : S_ok (sp_person S x y v).2 := by
  unfold sp_person
  by_cases q : ir x 0 19 ∧ ir y 0 19 ∧ ir v 0 63
  · rw [if_pos q]
    by_cases q2 : N_n (S_N S) = 6
    · rw [if_pos q2]; exact ok
    · rw [if_neg q2]
      obtain ⟨k1, k2, k3, k4, k5, k6, k7, k8, k9, k10, k11, k12, k13, k14, k15, k16⟩ := ok.1
      have pw : 2 ^ (N_n (S_N S) + 1) = 2 ^ N_n (S_N S) + 2 ^ N_n (S_N S) := by rw [Nat.pow_succ]; omega
      have pp : 0 < 2 ^ N_n (S_N S) := Nat.two_pow_pos _
      refine sk_N ok ⟨?_, k2, fun k hk => k3 k ?_, k4, ?_, fun k hk => ⟨?_, ?_, ?_⟩, k7, fun k hk => ?_, k9, k10, k11, k12, k13, k14, k15, fun k hk => ?_⟩
      · show N_n (S_N S) + 1 ≤ 6
        omega
      · have : N_n (S_N S) + 1 ≤ k := hk
        omega
      · show N_w (S_N S) < 2 ^ (N_n (S_N S) + 1)
        omega
      · exact udk_lt (fun k hk => (k6 k hk).1) (cl_lt q.1 (by omega) (by omega)) k hk
      · exact udk_lt (fun k hk => (k6 k hk).2.1) (cl_lt q.2.1 (by omega) (by omega)) k hk
      · exact udk_lt (fun k hk => (k6 k hk).2.2) (cl_lt q.2.2 (by omega) (by omega)) k hk
      · have hk : k < N_n (S_N S) + 1 := hk
        show (if k < N_n (S_N S) then N_ma (S_N S) k + 2 ^ N_n (S_N S) else if k = N_n (S_N S) then 2 ^ (N_n (S_N S) + 1) - 1 else N_ma (S_N S) k) < 2 ^ (N_n (S_N S) + 1)
        by_cases e : k < N_n (S_N S)
        · rw [if_pos e]
          have := k8 k e
          omega
        · rw [if_neg e, if_pos (by omega)]
          omega
      · obtain ⟨a, i, j, e1, e2, e3, e4⟩ := k16 k hk
        refine ⟨a, i, j, e1, e2, e3, ?_⟩
        show j < N_n (S_N S) + 1
        omega
  · rw [if_neg q]; exact ok
theorem k_marks {S : SS} (ok : S_ok S) (c v : Int32) : S_ok (sp_marks S c v).2 := by
  unfold sp_marks
  by_cases q : ir c 0 (N_n (S_N S) - 1 : Int) ∧ ir v 0 63
  · rw [if_pos q]
    obtain ⟨k1, k2, k3, k4, k5, k6, k7⟩ := ok.1
    exact sk_N ok ⟨k1, k2, k3, k4, k5, fun k hk => ⟨(k6 k hk).1, (k6 k hk).2.1, udk_lt (fun k hk => (k6 k hk).2.2) (cl_lt q.2 (by omega) (by omega)) k hk⟩, k7⟩
  · rw [if_neg q]; exact ok
theorem k_likes {S : SS} (ok : S_ok S) (a c v : Int32) : S_ok (sp_likes S a c v).2 := by
  unfold sp_likes
  by_cases q : ir a 0 (N_n (S_N S) - 1 : Int) ∧ ir c 0 (N_n (S_N S) - 1 : Int) ∧ ir v 0 9
  · rw [if_pos q]
    obtain ⟨k1, k2, k3, k4, k5, k6, k7, k8⟩ := ok.1
    exact sk_N ok ⟨k1, k2, k3, k4, k5, k6, udk_lt k7 (cl_lt q.2.2 (by omega) (by omega)), k8⟩
  · rw [if_neg q]; exact ok
theorem bt_lt : ∀ n, n < 7 → ∀ w, w < 64 → ∀ q, q < 6 → ∀ b : Bool, w < 2 ^ n → q < n → bt w q b < 2 ^ n := by decide +kernel
theorem k_wont {S : SS} (ok : S_ok S) (a : Int32) (b : Bool) : S_ok (sp_wont S a b).2 := by
  unfold sp_wont
  by_cases q : ir a 0 (N_n (S_N S) - 1 : Int)
  · rw [if_pos q]
    have w6 := ok.1.w6
    obtain ⟨k1, k2, k3, k4, k5, k6⟩ := ok.1
    have h1 : cl a < N_n (S_N S) := cl_lt q (by omega) (by omega)
    exact sk_N ok ⟨k1, k2, k3, k4, bt_lt (N_n (S_N S)) (by omega) _ w6 _ (by omega) b k5 h1, k6⟩
  · rw [if_neg q]; exact ok
theorem k_table {S : SS} (ok : S_ok S) (sh lane i : Int32) : S_ok (sp_table S sh lane i).2 := by
  unfold sp_table
  by_cases q : sp_take S sh lane i < 0
  · rw [if_pos q]; exact ok
  · rw [if_neg q]
    have tg : tkg S sh i = true := by
      refine Classical.byContradiction (fun z => q ?_)
      unfold sp_take
      split
      · assumption
      · first | decide | (rw [if_neg z]; decide)
    obtain ⟨k1, k2, k3, k4, k5⟩ := ok.1
    obtain ⟨p1, p2, p3⟩ := tkg_pm k1 tg
    exact sk_N ok ⟨k1, p1.1, p2, p1.2.1, k5⟩
theorem k_inn {S : SS} (ok : S_ok S) (x y : Int32) : S_ok (sp_inn S x y).2 := by
  unfold sp_inn
  by_cases q : ir x 0 19 ∧ ir y 0 19
  · rw [if_pos q]
    by_cases q2 : N_ns (S_N S) = 4
    · rw [if_pos q2]; exact ok
    · rw [if_neg q2]
      obtain ⟨k1, k2, k3, k4, k5, k6, k7, k8, k9, k10, k11⟩ := ok.1
      refine sk_N ok ⟨k1, k2, k3, k4, k5, k6, k7, k8, ?_, fun k hk => ⟨udk_lt (fun k hk => (k10 k hk).1) (cl_lt q.1 (by omega) (by omega)) k hk, udk_lt (fun k hk => (k10 k hk).2) (cl_lt q.2 (by omega) (by omega)) k hk⟩, k11⟩
      show N_ns (S_N S) + 1 ≤ 4
      omega
  · rw [if_neg q]; exact ok
theorem k_set {S : SS} (ok : S_ok S) (w v : Int32) : S_ok (sp_set S w v).2 := by
  unfold sp_set
  obtain ⟨k1, k2, k3, k4, k5, k6, k7, k8, k9, k10, k11, k12, k13, k14, k15⟩ := ok.1
  by_cases q : w = 0 ∧ ir v 1 9
  · rw [if_pos q]
    have h1 := cl_int (x := v) (by have := q.2.1; omega)
    have h2 := q.2.1
    have h3 := q.2.2
    exact sk_N ok ⟨k1, k2, k3, k4, k5, k6, k7, k8, k9, k10, show 1 ≤ cl v by omega, show cl v ≤ 9 by omega, k13, k14, k15⟩
  · rw [if_neg q]
    by_cases q2 : w = 1 ∧ ir v 2 4
    · rw [if_pos q2]
      have h1 := cl_int (x := v) (by have := q2.2.1; omega)
      have h2 := q2.2.1
      have h3 := q2.2.2
      exact sk_N ok ⟨k1, k2, k3, k4, k5, k6, k7, k8, k9, k10, k11, k12, show 2 ≤ cl v by omega, show cl v ≤ 4 by omega, k15⟩
    · rw [if_neg q2]; exact ok
theorem k_meet {S : SS} (ok : S_ok S) (x : Int32) : S_ok (sp_meet S x).2 := by
  unfold sp_meet
  by_cases q : x.toInt < 0 ∨ who (S_N S) (N_t (S_N S)) (cl x) = 0
  · rw [if_pos q]; exact ok
  · rw [if_neg q]
    by_cases q2 : ¬ who (S_N S) (N_t (S_N S)) (cl x) &&& N_w (S_N S) = 0
    · rw [if_pos q2]; exact ok
    · rw [if_neg q2]
      have hT : Tb (N_n (S_N S)) (N_t (S_N S)) := ⟨ok.1.pm, ok.1.2.2.1⟩
      obtain ⟨w1, w2⟩ := who_t ok.1 hT.1 hT.2 (fun z => q (Or.inr z))
      have hn := ok.1.1
      have hA : Tb (N_n (S_N S)) (aft (N_t (S_N S)) (cl x) (who (S_N S) (N_t (S_N S)) (cl x))) := by
        unfold aft
        by_cases k0 : cl x / 10000 = 0
        · rw [if_pos k0]
          rcases w2 with ⟨_, a, b, _⟩ | ⟨z, _⟩ | ⟨z, _⟩
          · have e1 : cl x % 10000 = cl x := by omega
            rw [e1] at a b
            exact ⟨sw_pm hT.1 (by omega) (by omega), sw_fx (by omega) b hT.2⟩
          · omega
          · omega
        · rw [if_neg k0]
          exact ⟨stt_pm hT.1 (two_le6 hn w1), stt_out w1 hT.2⟩
      obtain ⟨k1, k2, k3, k4, k5⟩ := ok.1
      exact sk_N ok ⟨k1, hA.1.1, hA.2, hA.1.2.1, k5⟩
theorem k_typ {S : SS} (ok : S_ok S) (w : Int64) (n : Int32) : S_ok (sp_typ S w n).2 := by
  unfold sp_typ
  by_cases q : ir n 1 8 ∧ ∀ k, k < cl n → 32 ≤ by_ w k ∧ by_ w k ≤ 126
  · rw [if_pos q]
    by_cases q2 : 100 < S_tl S + cl n
    · rw [if_pos q2]; exact ok
    · rw [if_neg q2]
      obtain ⟨k1, k2, k3, k4, k5⟩ := ok
      refine ⟨k1, k2, ?_, fun k hk => ?_, k5⟩
      · show S_tl S + cl n ≤ 100
        omega
      · have hk : k < S_tl S + cl n := hk
        show ∃ j, 32 ≤ j ∧ j ≤ 126 ∧ (if S_tl S ≤ k then nI (by_ w (cl n - 1 - (k - S_tl S))) else S_ts S k) = nI j
        by_cases e : S_tl S ≤ k
        · rw [if_pos e]
          have h1 := q.2 (cl n - 1 - (k - S_tl S)) (by omega)
          exact ⟨_, h1.1, h1.2, rfl⟩
        · rw [if_neg e]
          exact k4 k (by omega)
  · rw [if_neg q]; exact ok
theorem rcl_bd {n : Nat} {mk g : Nat → Nat} {len : Nat} : ∀ (r c a : Nat) (d : Nat → Nat) (k : Nat), (rcl n mk g len r c a d).2.2.2 k ≤ d k
  | 0, _, _, _, k => cls_bd k
  | r + 1, c, a, d, k => by
    unfold rcl
    split
    · exact cls_bd k
    · split
      · exact cls_bd k
      · split
        · exact cls_bd k
        · exact Nat.le_trans (rcl_bd r _ _ _ k) (cls_bd k)
theorem k_facts {S : SS} (ok : S_ok S) : S_ok (sp_facts S).2 := by
  unfold sp_facts
  obtain ⟨⟨k1, k2, k3, k4, k5, k6, k7, k8, k9⟩, l2, l3, l4, l5⟩ := ok
  split
  · exact ⟨⟨k1, k2, k3, k4, k5, k6, k7, fun k hk => Nat.lt_of_le_of_lt (rcl_bd _ _ _ _ k) (k8 k hk), k9⟩, l2, Nat.zero_le _, fun k hk => absurd hk (Nat.not_lt_zero _), l5⟩
  · exact ⟨⟨k1, k2, k3, k4, k5, k6, k7, k8, k9⟩, l2, Nat.zero_le _, fun k hk => absurd hk (Nat.not_lt_zero _), l5⟩
theorem k_forget {S : SS} (ok : S_ok S) : S_ok (sp_forget S).2 := by
  unfold sp_forget
  obtain ⟨k1, k2, k3, k4, k5, k6, k7, k8, k9⟩ := ok.1
  refine sk_N ok ⟨k1, k2, k3, k4, k5, k6, k7, fun k hk => ?_, k9⟩
  show 2 ^ N_n (S_N S) - 1 < 2 ^ N_n (S_N S)
  have pp : 0 < 2 ^ N_n (S_N S) := Nat.two_pow_pos _
  omega
theorem k_fear {S : SS} (ok : S_ok S) (a i j : Int32) : S_ok (sp_fear S a i j).2 := by
  unfold sp_fear
  by_cases q : ir a 0 2 ∧ 0 ≤ i.toInt ∧ i.toInt < j.toInt ∧ j.toInt < N_n (S_N S)
  · rw [if_pos q]
    by_cases q2 : N_fe (S_N S) = 6
    · rw [if_pos q2]; exact ok
    · rw [if_neg q2]
      obtain ⟨k1, k2, k3, k4, k5, k6, k7, k8, k9, k10, k11, k12, k13, k14, k15, k16⟩ := ok.1
      obtain ⟨q0, q1, q3, q4⟩ := q
      refine sk_N ok ⟨k1, k2, k3, k4, k5, k6, k7, k8, k9, k10, k11, k12, k13, k14, ?_, fun k hk => ?_⟩
      · show N_fe (S_N S) + 1 ≤ 6
        omega
      · have hk : k < N_fe (S_N S) + 1 := hk
        show ∃ a2 i2 j2, ud (N_ff (S_N S)) (N_fe (S_N S)) (36 * cl a + 6 * cl i + cl j) k = 36 * a2 + 6 * i2 + j2 ∧ a2 < 3 ∧ i2 < j2 ∧ j2 < N_n (S_N S)
        by_cases e : k = N_fe (S_N S)
        · rw [e, ud_s]
          have h1 := cl_int q1
          have h2 := cl_int (x := j) (by omega)
          exact ⟨cl a, cl i, cl j, rfl, cl_lt q0 (by omega) (by omega), by omega, by omega⟩
        · rw [ud_n e]
          exact k16 k (by omega)
  · rw [if_neg q]; exact ok
theorem k_image {S : SS} (ok : S_ok S) : S_ok (sp_image S).2 := by
  unfold sp_image
  exact ⟨ok.1, fun K e => by rw [← Option.some.inj e]; exact ok.1, ok.2.2⟩
theorem k_restore {S : SS} (ok : S_ok S) : S_ok (sp_restore S).2 := by
  unfold sp_restore
  cases e : S_K S with
  | none => exact ok
  | some K => exact sk_N ok (ok.2.1 K e)
theorem la_ok {lane : Int32} (h : ir lane 0 2) : lane = -1 ∨ lane = nI 0 ∨ lane = nI 1 ∨ lane = nI 2 := by
  have h1 := cl_of h.1
  have h2 : cl lane < 3 := cl_lt h (by omega) (by omega)
  have : cl lane = 0 ∨ cl lane = 1 ∨ cl lane = 2 := by omega
  rcases this with e | e | e <;> (rw [e] at h1; rw [h1]; decide)
theorem k_sheet {S : SS} (ok : S_ok S) (s lane n : Int32) : S_ok (sp_sheet S s lane n).2 := by
  unfold sp_sheet
  by_cases q : ir s 0 3 ∧ ir lane 0 2 ∧ n.toInt ≤ 24
  · rw [if_pos q]
    by_cases q2 : n.toInt < 0
    · rw [if_pos q2]; exact ok
    · rw [if_neg q2]
      obtain ⟨k1, k2, k3, k4, k5⟩ := ok
      refine ⟨k1, k2, k3, k4, fun k hk => ?_⟩
      show (ud (S_la S) (cl s) lane k = -1 ∨ ud (S_la S) (cl s) lane k = nI 0 ∨ ud (S_la S) (cl s) lane k = nI 1 ∨ ud (S_la S) (cl s) lane k = nI 2) ∧ ∃ j, j ≤ 24 ∧ ud (S_sz S) (cl s) n k = nI j
      by_cases e : k = cl s
      · rw [e, ud_s, ud_s]
        have h1 := cl_int (x := n) (by omega)
        exact ⟨la_ok q.2.1, cl n, by omega, cl_of (by omega)⟩
      · rw [ud_n e, ud_n e]
        exact k5 k hk
  · rw [if_neg q]; exact ok
theorem k_drop {S : SS} (ok : S_ok S) (s : Int32) : S_ok (sp_drop S s).2 := by
  unfold sp_drop
  by_cases q : ir s 0 3
  · rw [if_pos q]
    by_cases q2 : S_la S (cl s) = -1
    · rw [if_pos q2]; exact ok
    · rw [if_neg q2]
      obtain ⟨k1, k2, k3, k4, k5⟩ := ok
      refine ⟨k1, k2, k3, k4, fun k hk => ⟨?_, (k5 k hk).2⟩⟩
      show ud (S_la S) (cl s) (-1) k = -1 ∨ ud (S_la S) (cl s) (-1) k = nI 0 ∨ ud (S_la S) (cl s) (-1) k = nI 1 ∨ ud (S_la S) (cl s) (-1) k = nI 2
      by_cases e : k = cl s
      · rw [e, ud_s]; exact Or.inl rfl
      · rw [ud_n e]; exact (k5 k hk).1
  · rw [if_neg q]; exact ok
theorem k_item {S : SS} (ok : S_ok S) (s lane i v : Int32) : S_ok (sp_item S s lane i v).2 := by
  unfold sp_item
  split <;> exact ok
theorem k_copy {S : SS} (ok : S_ok S) (a i b j n : Int32) : S_ok (sp_copy S a i b j n).2 := by
  unfold sp_copy
  split
  · split
    · exact ok
    · split
      · exact ok
      · split <;> exact ok
  · exact ok
theorem k_harm {S : SS} (sl sh lane i : Int32) : (sp_harm S sl sh lane i).2 = S := by
  unfold sp_harm
  split
  · split <;> rfl
  · rfl
theorem k_trade {S : SS} (x : Int32) : (sp_trade S x).2 = S := by
  unfold sp_trade
  split <;> rfl
theorem k_may {S : SS} (x w : Int32) : (sp_may S x w).2 = S := by
  unfold sp_may
  split
  · split <;> rfl
  · rfl
theorem k_sure {S : SS} (x : Int32) : (sp_sure S x).2 = S := by
  unfold sp_sure
  split
  · split <;> rfl
  · rfl
theorem k_next {S : SS} (w : Int32) : (sp_next S w).2 = S := by
  unfold sp_next
  split
  · split
    · rfl
    · split
      · rfl
      · split <;> rfl
  · rfl
theorem k_blocks {S : SS} (sh lane i : Int32) : (sp_blocks S sh lane i).2 = S := by
  unfold sp_blocks
  split <;> rfl
theorem k_best {S : SS} (k : Int32) : (sp_best S k).2 = S := by
  unfold sp_best
  split
  · split
    · rfl
    · split
      · rfl
      · split <;> rfl
  · rfl
theorem k_explained {S : SS} (k w : Int32) : (sp_explained S k w).2 = S := by
  unfold sp_explained
  split
  · split
    · rfl
    · split
      · rfl
      · split
        · rfl
        · split <;> rfl
  · rfl
/-! what stands in the stores -/
def VX : VV := (PV, DVN, RV, SW, ST)
theorem WL_cg {N N2 : NS} (h1 : ∀ x j, sok N2 x j ↔ sok N x j) (h2 : ∀ x j, sto N2 x j = sto N x j) (h3 : ∀ x j, sco N2 x j = sco N x j) (h4 : N_n N2 = N_n N ∧ N_w N2 = N_w N) : ∀ js x m, WL N2 js x m ↔ WL N js x m
  | [], x, m => by
    show (ow x (bnd (N_n N2) (N_w N2) x) = true ∧ m = 0) ↔ (ow x (bnd (N_n N) (N_w N) x) = true ∧ m = 0)
    rw [h4.1, h4.2]
  | j :: js, x, m => by
    show (j < 298 ∧ sok N2 x j ∧ ∃ m2, WL N2 js (sto N2 x j) m2 ∧ m = sco N2 x j + m2) ↔ (j < 298 ∧ sok N x j ∧ ∃ m2, WL N js (sto N x j) m2 ∧ m = sco N x j + m2)
    rw [h1, h2, h3]
    constructor
    · rintro ⟨a, b, m2, c, d⟩
      exact ⟨a, b, m2, (WL_cg h1 h2 h3 h4 js _ m2).mp c, d⟩
    · rintro ⟨a, b, m2, c, d⟩
      exact ⟨a, b, m2, (WL_cg h1 h2 h3 h4 js _ m2).mpr c, d⟩
theorem PV_cg {N N2 : NS} (h0 : N_t N2 = N_t N) (h1 : ∀ x j, sok N2 x j ↔ sok N x j) (h2 : ∀ x j, sto N2 x j = sto N x j) (h3 : ∀ x j, sco N2 x j = sco N x j) (h4 : N_n N2 = N_n N ∧ N_w N2 = N_w N) : PV N2 = PV N := by
  have hw := WL_cg h1 h2 h3 h4
  have hb : ∀ x js m, BP N2 x js m ↔ BP N x js m := fun x js m => by
    unfold BP
    simp only [hw]
  funext mi me g
  unfold PV
  simp only [hb, h0]
theorem mxh_cg {N N2 : NS} (h1 : ∀ s x n, hrm N2 s x n = hrm N s x n) (h2 : N_ff N2 = N_ff N ∧ N_n N2 = N_n N) (x : Nat → Nat) : ∀ f, mxh N2 x f = mxh N x f
  | 0 => rfl
  | f + 1 => by
    unfold mxh
    rw [mxh_cg h1 h2 x f, h1, h2.1, h2.2]
theorem smh_cg {N N2 : NS} (h1 : ∀ s x n, hrm N2 s x n = hrm N s x n) (h2 : N_ff N2 = N_ff N ∧ N_n N2 = N_n N) (x : Nat → Nat) (f : Nat) : smh N2 x f = smh N x f := by
  unfold smh
  rw [h2.1, h2.2]
  simp only [h1]
theorem bst_cg {N N2 : NS} (h1 : ∀ s x n, hrm N2 s x n = hrm N s x n) (h2 : N_ff N2 = N_ff N ∧ N_n N2 = N_n N) (h3 : N_fe N2 = N_fe N) : ∀ t, bst N2 t = bst N t
  | 0 => by
    unfold bst
    rw [mxh_cg h1 h2, smh_cg h1 h2, h2.2, h3]
  | t + 1 => by
    unfold bst
    rw [bst_cg h1 h2 h3 t, mxh_cg h1 h2, smh_cg h1 h2, h2.2, h3]
theorem RV_cg {N N2 : NS} (h1 : ∀ s x n, hrm N2 s x n = hrm N s x n) (h2 : N_ff N2 = N_ff N ∧ N_n N2 = N_n N) (h3 : N_fe N2 = N_fe N) : RV N2 = RV N := by
  funext gr su g
  unfold RV
  rw [h2.2]
  simp only [bst_cg h1 h2 h3]
theorem VX_ok : V_ok VX := by
  refine ⟨fun N v => ⟨PV_cg rfl (fun _ _ => Iff.rfl) (fun _ _ => rfl) (fun _ _ => rfl) ⟨rfl, rfl⟩, rfl, RV_cg (fun _ _ _ => rfl) ⟨rfl, rfl⟩ rfl, rfl⟩, fun N v => ⟨PV_cg rfl (fun _ _ => Iff.rfl) (fun _ _ => rfl) (fun _ _ => rfl) ⟨rfl, rfl⟩, rfl, RV_cg (fun _ _ _ => rfl) ⟨rfl, rfl⟩ rfl, rfl⟩, fun N v => ⟨PV_cg rfl (fun _ _ => Iff.rfl) (fun _ _ => rfl) (fun _ _ => rfl) ⟨rfl, rfl⟩, rfl, RV_cg (fun _ _ _ => rfl) ⟨rfl, rfl⟩ rfl, rfl⟩, fun N t me mi => ?_, fun N fe ff => ?_⟩
  · rfl
  · rfl
