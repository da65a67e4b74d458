/-- whether a number is that of a slip of told kinds among n -/
def isl (n K s : Nat) : Bool := decide (K / 2 ^ (s / 36) % 2 = 1) && decide (s / 36 < 3) && decide (s / 6 % 6 < s % 6) && decide (s % 6 < n)
theorem isl_e {n K s : Nat} : isl n K s = true ↔ K / 2 ^ (s / 36) % 2 = 1 ∧ s / 36 < 3 ∧ s / 6 % 6 < s % 6 ∧ s % 6 < n := by
  unfold isl
  simp only [Bool.and_eq_true, decide_eq_true_eq]
  exact ⟨fun h => ⟨h.1.1.1, h.1.1.2, h.1.2, h.2⟩, fun h => ⟨⟨⟨h.1, h.2.1⟩, h.2.2.1⟩, h.2.2.2⟩⟩
theorem isl_s {n K s : Nat} (h : isl n K s = true) : s < 108 ∧ ∃ a u v, s = 36 * a + 6 * u + v ∧ a < 3 ∧ u < v ∧ v < n := by
  obtain ⟨h1, h2, h3, h4⟩ := isl_e.mp h
  exact ⟨by omega, s / 36, s / 6 % 6, s % 6, by omega, h2, h3, h4⟩
theorem isl_mk {n K a u v : Nat} (hn : n ≤ 6) (hk : K / 2 ^ a % 2 = 1) (ha : a < 3) (hu : u < v) (hv : v < n) : isl n K (36 * a + 6 * u + v) = true := by
  have e1 : (36 * a + 6 * u + v) / 36 = a := by omega
  have e2 : (36 * a + 6 * u + v) / 6 % 6 = u := by omega
  have e3 : (36 * a + 6 * u + v) % 6 = v := by omega
  rw [isl_e, e1, e2, e3]
  exact ⟨hk, ha, hu, hv⟩
theorem isl_t {n K s : Nat} (hn : n ≤ 6) (h : isl n K s = true) : Pm (tgs s) ∧ Pm (tvs s) ∧ (∀ k, n ≤ k → tgs s k = k) ∧ (∀ k, n ≤ k → tvs s k = k) ∧ (∀ k, tvs s (tgs s k) = k) ∧ ∀ k, tgs s (tvs s k) = k := by
  obtain ⟨-, a, u, v, rfl, ha, hu, hv⟩ := isl_s h
  have e := tgs_e (a := a) hu (show v < 6 by omega)
  rw [e.1, e.2]
  refine ⟨tg_pm ha hu (by omega), tv_pm ha hu (by omega), tg_n hu hv, tv_n hu hv, fun k => ?_, fun k => ?_⟩
  · by_cases q : k < 6
    · exact (tg_t ha hu (by omega) q).2.2.1
    · rw [(tg_out a hu (by omega)).1, (tg_out a hu (by omega)).2]
  · by_cases q : k < 6
    · exact (tg_t ha hu (by omega) q).2.2.2
    · rw [(tg_out a hu (by omega)).2, (tg_out a hu (by omega)).1]
/-- a table of n people -/
def Tb (n : Nat) (x : Nat → Nat) : Prop := Pm x ∧ ∀ k, n ≤ k → x k = k
def ed (s : Nat) (x : Nat → Nat) : Nat → Nat := fun k => x (tvs s k)
def bk_ (s : Nat) (x : Nat → Nat) : Nat → Nat := fun k => x (tgs s k)
def ren (s : Nat) (x : Nat → Nat) : Nat → Nat := fun k => tgs s (x k)
theorem Tb.ed {n K s : Nat} (hn : n ≤ 6) {x : Nat → Nat} (hx : Tb n x) (h : isl n K s = true) : Tb n (ed s x) := by
  obtain ⟨a, b, c, d, e, f⟩ := isl_t hn h
  exact ⟨hx.1.comp b, fun k hk => by show x (tvs s k) = k; rw [d k hk, hx.2 k hk]⟩
theorem Tb.bk {n K s : Nat} (hn : n ≤ 6) {x : Nat → Nat} (hx : Tb n x) (h : isl n K s = true) : Tb n (bk_ s x) := by
  obtain ⟨a, b, c, d, e, f⟩ := isl_t hn h
  exact ⟨hx.1.comp a, fun k hk => by show x (tgs s k) = k; rw [c k hk, hx.2 k hk]⟩
theorem Tb.ren {n K s : Nat} (hn : n ≤ 6) {x : Nat → Nat} (hx : Tb n x) (h : isl n K s = true) : Tb n (ren s x) := by
  obtain ⟨a, b, c, d, e, f⟩ := isl_t hn h
  exact ⟨a.comp hx.1, fun k hk => by show tgs s (x k) = k; rw [hx.2 k hk, c k hk]⟩
theorem ed_bk {n K s : Nat} (hn : n ≤ 6) (h : isl n K s = true) (x : Nat → Nat) : ed s (bk_ s x) = x ∧ bk_ s (ed s x) = x := by
  obtain ⟨a, b, c, d, e, f⟩ := isl_t hn h
  exact ⟨funext fun k => by show x (tgs s (tvs s k)) = x k; rw [f], funext fun k => by show x (tvs s (tgs s k)) = x k; rw [e]⟩
theorem Tb.id (n : Nat) : Tb n (fun k => k) := ⟨id_pm, fun _ _ => rfl⟩
theorem rk_id : rk (fun k => k) = 0 := by decide
theorem rk_0 {x : Nat → Nat} (hx : Pm x) : rk x = 0 ↔ x = fun k => k := ⟨fun h => rk_inj hx id_pm (h.trans rk_id.symm), fun h => by rw [h]; exact rk_id⟩
/-- rows of k slips that lead to a table -/
def PP (n K : Nat) : Nat → (Nat → Nat) → Nat
  | 0, x => if rk x = 0 then 1 else 0
  | k + 1, x => fb_sm (fun s => if isl n K s = true then PP n K k (bk_ s x) else 0) 108
theorem sm_swap (f : Nat → Nat → Nat) (m : Nat) : ∀ n, fb_sm (fun s => fb_sm (fun u => f s u) m) n = fb_sm (fun u => fb_sm (fun s => f s u) n) m
  | 0 => (sm_0 m).symm
  | n + 1 => by
    rw [fb_sm_succ, sm_swap f m n, ← fb_sm_add]
    rfl
theorem sm_if (c : Bool) (f : Nat → Nat) (m : Nat) : (if c = true then fb_sm f m else 0) = fb_sm (fun u => if c = true then f u else 0) m := by
  by_cases q : c = true
  · rw [if_pos q]; exact fb_sm_cong (fun k _ => (if_pos q).symm)
  · rw [if_neg q, fb_sm_cong (g := fun _ => 0) (fun k _ => if_neg q), sm_0]
theorem rk_bk {n K s : Nat} (hn : n ≤ 6) {x : Nat → Nat} (hx : Tb n x) (h : isl n K s = true) : rk (bk_ s x) = 0 ↔ rk (ren s x) = 0 := by
  obtain ⟨a, b, c, d, e, f⟩ := isl_t hn h
  rw [rk_0 (hx.bk hn h).1, rk_0 (hx.ren hn h).1]
  constructor
  · intro q
    funext k
    have q1 : x (tgs s (tvs s k)) = tvs s k := congrFun q (tvs s k)
    rw [f] at q1
    show tgs s (x k) = k
    rw [q1, f]
  · intro q
    funext k
    have q1 : tgs s (x (tgs s k)) = tgs s k := congrFun q (tgs s k)
    have q2 := congrArg (tvs s) q1
    rw [e, e] at q2
    exact q2
theorem PP_left {n K : Nat} (hn : n ≤ 6) : ∀ k x, Tb n x → PP n K (k + 1) x = fb_sm (fun s => if isl n K s = true then PP n K k (ren s x) else 0) 108
  | 0, x, hx => by
    refine fb_sm_cong (fun s _ => ?_)
    by_cases q : isl n K s = true
    · rw [if_pos q, if_pos q]
      show (if rk (bk_ s x) = 0 then 1 else 0) = if rk (ren s x) = 0 then 1 else 0
      have := rk_bk hn hx q
      by_cases z : rk (bk_ s x) = 0
      · rw [if_pos z, if_pos (this.mp z)]
      · rw [if_neg z, if_neg (fun y => z (this.mpr y))]
    · rw [if_neg q, if_neg q]
  | k + 1, x, hx => by
    have e1 : PP n K (k + 2) x = fb_sm (fun s => fb_sm (fun u => if isl n K s = true then (if isl n K u = true then PP n K k (ren u (bk_ s x)) else 0) else 0) 108) 108 := by
      show fb_sm (fun s => if isl n K s = true then PP n K (k + 1) (bk_ s x) else 0) 108 = _
      refine fb_sm_cong (fun s _ => ?_)
      rw [← sm_if]
      by_cases q : isl n K s = true
      · rw [if_pos q, if_pos q, PP_left hn k _ (hx.bk hn q)]
      · rw [if_neg q, if_neg q]
    rw [e1, sm_swap]
    refine fb_sm_cong (fun u _ => ?_)
    by_cases q : isl n K u = true
    · rw [if_pos q]
      refine fb_sm_cong (fun s _ => ?_)
      by_cases z : isl n K s = true
      · rw [if_pos z, if_pos z, if_pos q]; rfl
      · rw [if_neg z, if_neg z]
    · rw [if_neg q, fb_sm_cong (g := fun _ => 0) (fun s _ => ?_), sm_0]
      by_cases z : isl n K s = true
      · rw [if_pos z, if_neg q]
      · rw [if_neg z]
theorem sm_pos {f : Nat → Nat} : ∀ {n : Nat}, 0 < fb_sm f n ↔ ∃ k, k < n ∧ 0 < f k
  | 0 => ⟨fun h => absurd h (Nat.lt_irrefl _), fun ⟨k, h, _⟩ => absurd h (Nat.not_lt_zero _)⟩
  | n + 1 => by
    rw [fb_sm_succ]
    constructor
    · intro h
      by_cases q : 0 < f n
      · exact ⟨n, by omega, q⟩
      · obtain ⟨k, h1, h2⟩ := (sm_pos (f := f) (n := n)).mp (by omega)
        exact ⟨k, by omega, h2⟩
    · intro ⟨k, h1, h2⟩
      by_cases e : k = n
      · subst e; omega
      · have := (sm_pos (f := f) (n := n)).mpr ⟨k, by omega, h2⟩
        omega
/-- by how few slips a table comes to be -/
def DD (n K : Nat) (x : Nat → Nat) : Nat := fa_first (fun k => decide (0 < PP n K k x)) 16
/-- how many pairs are the wrong way round -/
def inv (x : Nat → Nat) : Nat := fb_sm (fun j => fb_ct (fun i => decide (x j < x i)) j) 6
theorem inv_all : (List.range 7).all (fun n => (pls n).all (fun x => decide (inv x ≤ 15) && (decide (rk x = 0) || (List.range (n - 1)).any (fun i => decide (inv (fun k => x (tg 0 i (i + 1) k)) + 1 = inv x))))) = true := by decide +kernel
theorem inv_t {n : Nat} (hn : n ≤ 6) {x : Nat → Nat} (hx : Tb n x) : inv x ≤ 15 ∧ (rk x = 0 ∨ ∃ i, i + 1 < n ∧ inv (fun k => x (tg 0 i (i + 1) k)) + 1 = inv x) := by
  have h := List.all_eq_true.mp (List.all_eq_true.mp inv_all n (List.mem_range.mpr (by omega))) x (pls_mem hx.1 hx.2)
  rw [Bool.and_eq_true, Bool.or_eq_true, decide_eq_true_eq, decide_eq_true_eq] at h
  refine ⟨h.1, h.2.elim Or.inl (fun z => Or.inr ?_)⟩
  obtain ⟨i, hi, e⟩ := List.any_eq_true.mp z
  exact ⟨i, by have := List.mem_range.mp hi; omega, of_decide_eq_true e⟩
theorem tg_adj {a i : Nat} (ha : a < 3) : tg a i (i + 1) = tg 0 i (i + 1) := by
  funext k
  unfold tg
  rw [if_pos rfl]
  by_cases q : a = 0
  · rw [if_pos q]
  · rw [if_neg q]
    by_cases z : i ≤ k ∧ k ≤ i + 1
    · rw [if_pos z]
      by_cases y : a = 1
      · rw [if_pos y]
        by_cases w : k = i
        · rw [if_pos (by omega), if_pos w, w]
        · rw [if_neg (by omega), if_neg w, if_pos (by omega)]
      · rw [if_neg y]
        by_cases w : k = i
        · rw [if_pos w]; omega
        · rw [if_neg w, if_pos (by omega)]; omega
    · rw [if_neg z, if_neg (by omega), if_neg (by omega)]
theorem K_ne {K : Nat} (h0 : 0 < K) (hK : K < 8) : ∃ a, a < 3 ∧ K / 2 ^ a % 2 = 1 := by
  have h : ∀ K, K < 8 → (K = 0 ∨ K / 2 ^ 0 % 2 = 1 ∨ K / 2 ^ 1 % 2 = 1 ∨ K / 2 ^ 2 % 2 = 1) := by decide
  rcases h K hK with z | z | z | z
  · omega
  · exact ⟨0, by decide, z⟩
  · exact ⟨1, by decide, z⟩
  · exact ⟨2, by decide, z⟩
theorem PP_inv {n K : Nat} (hn : n ≤ 6) (h0 : 0 < K) (hK : K < 8) : ∀ d x, Tb n x → inv x ≤ d → ∃ k, k ≤ d ∧ 0 < PP n K k x := by
  intro d
  induction d with
  | zero =>
    intro x hx hd
    rcases (inv_t hn hx).2 with z | ⟨i, hi, e⟩
    · exact ⟨0, Nat.le_refl _, by unfold PP; rw [if_pos z]; decide⟩
    · omega
  | succ d ih =>
    intro x hx hd
    rcases (inv_t hn hx).2 with z | ⟨i, hi, e⟩
    · exact ⟨0, Nat.zero_le _, by unfold PP; rw [if_pos z]; decide⟩
    · obtain ⟨a, ha, hk⟩ := K_ne h0 hK
      have his := isl_mk (u := i) (v := i + 1) hn hk ha (by omega) hi
      have eb : bk_ (36 * a + 6 * i + (i + 1)) x = fun k => x (tg 0 i (i + 1) k) := by
        unfold bk_
        rw [(tgs_e (a := a) (show i < i + 1 by omega) (by omega)).1, tg_adj ha]
      obtain ⟨k, h1, h2⟩ := ih _ (hx.bk hn his) (by rw [eb]; omega)
      refine ⟨k + 1, by omega, sm_pos.mpr ⟨_, (isl_s his).1, ?_⟩⟩
      rw [if_pos his]
      exact h2
theorem DD_t {n K : Nat} (hn : n ≤ 6) (h0 : 0 < K) (hK : K < 8) {x : Nat → Nat} (hx : Tb n x) : DD n K x ≤ 15 ∧ 0 < PP n K (DD n K x) x ∧ ∀ k, k < DD n K x → PP n K k x = 0 := by
  obtain ⟨k, h1, h2⟩ := PP_inv hn h0 hK _ x hx (inv_t hn hx).1
  have no : ∀ j, j < DD n K x → PP n K j x = 0 := fun j hj => by
    have := fa_first_no _ 16 j hj
    have := of_decide_eq_false this
    omega
  have le : DD n K x ≤ 15 := Nat.not_lt.mp (fun z => by have := no k (by omega); omega)
  exact ⟨le, of_decide_eq_true (fa_first_yes (fun k => decide (0 < PP n K k x)) 16 (show DD n K x < 16 by omega)), no⟩
theorem DD_le {n K : Nat} (hn : n ≤ 6) (h0 : 0 < K) (hK : K < 8) {x : Nat → Nat} (hx : Tb n x) {k : Nat} (h : 0 < PP n K k x) : DD n K x ≤ k := Nat.not_lt.mp (fun z => by have := (DD_t hn h0 hK hx).2.2 k z; omega)
theorem DD_bk {n K s : Nat} (hn : n ≤ 6) (h0 : 0 < K) (hK : K < 8) {x : Nat → Nat} (hx : Tb n x) (h : isl n K s = true) : DD n K x ≤ DD n K (bk_ s x) + 1 := by
  refine DD_le hn h0 hK hx (sm_pos.mpr ⟨s, (isl_s h).1, ?_⟩)
  rw [if_pos h]
  exact (DD_t hn h0 hK (hx.bk hn h)).2.1
theorem DD_ed {n K s : Nat} (hn : n ≤ 6) (h0 : 0 < K) (hK : K < 8) {x : Nat → Nat} (hx : Tb n x) (h : isl n K s = true) : DD n K (ed s x) ≤ DD n K x + 1 := by
  have := DD_bk hn h0 hK (hx.ed hn h) h
  rw [(ed_bk hn h x).2] at this
  exact this
theorem DD_ren {n K s : Nat} (hn : n ≤ 6) (h0 : 0 < K) (hK : K < 8) {x : Nat → Nat} (hx : Tb n x) (h : isl n K s = true) : DD n K x ≤ DD n K (ren s x) + 1 := by
  refine DD_le hn h0 hK hx ?_
  rw [PP_left hn _ x hx]
  refine sm_pos.mpr ⟨s, (isl_s h).1, ?_⟩
  rw [if_pos h]
  exact (DD_t hn h0 hK (hx.ren hn h)).2.1
theorem DD_0 {n K : Nat} (hn : n ≤ 6) (h0 : 0 < K) (hK : K < 8) {x : Nat → Nat} (hx : Tb n x) : DD n K x = 0 ↔ x = fun k => k := by
  rw [← rk_0 hx.1]
  constructor
  · intro z
    have := (DD_t hn h0 hK hx).2.1
    rw [z] at this
    unfold PP at this
    exact Classical.byContradiction (fun y => by rw [if_neg y] at this; omega)
  · intro z
    have := DD_le hn h0 hK hx (k := 0) (by unfold PP; rw [if_pos z]; decide)
    omega
theorem DD_pred {n K : Nat} (hn : n ≤ 6) (h0 : 0 < K) (hK : K < 8) {x : Nat → Nat} (hx : Tb n x) (hd : 0 < DD n K x) : ∃ s, isl n K s = true ∧ DD n K (bk_ s x) + 1 = DD n K x := by
  obtain ⟨k, e⟩ : ∃ k, DD n K x = k + 1 := ⟨DD n K x - 1, by omega⟩
  have h := (DD_t hn h0 hK hx).2.1
  rw [e] at h
  obtain ⟨s, _, hs⟩ := sm_pos.mp h
  by_cases q : isl n K s = true
  · rw [if_pos q] at hs
    have h1 := DD_le hn h0 hK (hx.bk hn q) hs
    have h2 := DD_bk hn h0 hK hx q
    exact ⟨s, q, by omega⟩
  · rw [if_neg q] at hs; omega
theorem DD_first {n K : Nat} (hn : n ≤ 6) (h0 : 0 < K) (hK : K < 8) {x : Nat → Nat} (hx : Tb n x) (hd : 0 < DD n K x) : ∃ s, isl n K s = true ∧ DD n K (ren s x) + 1 = DD n K x := by
  obtain ⟨k, e⟩ : ∃ k, DD n K x = k + 1 := ⟨DD n K x - 1, by omega⟩
  have h := (DD_t hn h0 hK hx).2.1
  rw [e, PP_left hn k x hx] at h
  obtain ⟨s, _, hs⟩ := sm_pos.mp h
  by_cases q : isl n K s = true
  · rw [if_pos q] at hs
    have h1 := DD_le hn h0 hK (hx.ren hn q) hs
    have h2 := DD_ren hn h0 hK hx q
    exact ⟨s, q, by omega⟩
  · rw [if_neg q] at hs; omega
/-- in how many ways -/
def WW (n K : Nat) (x : Nat → Nat) : Nat := PP n K (DD n K x) x
theorem WW_0 {n K : Nat} (hn : n ≤ 6) (h0 : 0 < K) (hK : K < 8) : WW n K (fun k => k) = 1 := by
  unfold WW
  rw [(DD_0 hn h0 hK (Tb.id n)).mpr rfl]
  unfold PP
  rw [if_pos rk_id]
theorem WW_s {n K : Nat} (hn : n ≤ 6) (h0 : 0 < K) (hK : K < 8) {x : Nat → Nat} (hx : Tb n x) (hd : 0 < DD n K x) : WW n K x = fb_sm (fun s => if isl n K s = true ∧ DD n K (bk_ s x) + 1 = DD n K x then WW n K (bk_ s x) else 0) 108 := by
  obtain ⟨k, e⟩ : ∃ k, DD n K x = k + 1 := ⟨DD n K x - 1, by omega⟩
  unfold WW
  rw [e]
  refine fb_sm_cong (fun s _ => ?_)
  by_cases q : isl n K s = true
  · have hb := hx.bk hn q
    have h2 := DD_bk hn h0 hK hx q
    by_cases z : DD n K (bk_ s x) = k
    · rw [if_pos q, if_pos ⟨q, by omega⟩, z]
    · rw [if_pos q, if_neg (fun y => z (by omega)), (DD_t hn h0 hK hb).2.2 k (by omega)]
  · rw [if_neg q, if_neg (fun y => q y.1)]
/-- the first slip of the way whose numbers come first -/
def ftw (n K : Nat) (x : Nat → Nat) : Nat := fa_first (fun s => isl n K s && decide (DD n K (ren s x) + 1 = DD n K x)) 108
theorem ftw_t {n K : Nat} (hn : n ≤ 6) (h0 : 0 < K) (hK : K < 8) {x : Nat → Nat} (hx : Tb n x) (hd : 0 < DD n K x) : ftw n K x < 108 ∧ isl n K (ftw n K x) = true ∧ DD n K (ren (ftw n K x) x) + 1 = DD n K x ∧ ∀ s, s < ftw n K x → isl n K s = true → ¬ DD n K (ren s x) + 1 = DD n K x := by
  obtain ⟨s, h1, h2⟩ := DD_first hn h0 hK hx hd
  have hs := (isl_s h1).1
  have no : ∀ j, j < ftw n K x → isl n K j = true → ¬ DD n K (ren j x) + 1 = DD n K x := fun j hj hi e => by
    have := fa_first_no _ 108 j hj
    rw [hi, Bool.true_and] at this
    exact of_decide_eq_false this e
  have lt : ftw n K x < 108 := Nat.not_le.mp (fun z => no s (by omega) h1 h2)
  have yes := fa_first_yes (fun s => isl n K s && decide (DD n K (ren s x) + 1 = DD n K x)) 108 (show ftw n K x < 108 from lt)
  rw [Bool.and_eq_true, decide_eq_true_eq] at yes
  exact ⟨lt, yes.1, yes.2, no⟩
def lft (n K : Nat) : Nat → (Nat → Nat) → (Nat → Nat)
  | 0, x => x
  | i + 1, x => lft n K i (ren (ftw n K x) x)
def sp_explained (S : SS) (k w : Int32) : Int32 × SS := if ir k 1 7 ∧ -2 ≤ w.toInt then (if N_n (S_N S) = 0 then (-2, S) else if w = -1 then (nI (DD (N_n (S_N S)) (cl k) (N_t (S_N S))), S) else if w = -2 then (nI (WW (N_n (S_N S)) (cl k) (N_t (S_N S))), S) else if w.toInt < DD (N_n (S_N S)) (cl k) (N_t (S_N S)) then (nI (ftw (N_n (S_N S)) (cl k) (lft (N_n (S_N S)) (cl k) (cl w) (N_t (S_N S)))), S) else (-4, S)) else (-1, S)
theorem isl_45 : (List.range 7).all (fun n => (List.range 8).all (fun K => decide (fb_ct (isl n K) 108 ≤ 45))) = true := by decide +kernel
theorem isl_le {n K : Nat} (hn : n ≤ 6) (hK : K < 8) : fb_ct (isl n K) 108 ≤ 45 := of_decide_eq_true (List.all_eq_true.mp (List.all_eq_true.mp isl_45 n (List.mem_range.mpr (by omega))) K (List.mem_range.mpr hK))
theorem sm_nth {P : Nat → Bool} {f : Nat → Nat} {M : Nat} : ∀ {m : Nat}, m ≤ M → fb_sm (fun s => if P s = true then f s else 0) m = fb_sm (fun i => f (nth P M i)) (fb_ct P m)
  | 0, _ => rfl
  | m + 1, h => by
    rw [fb_sm_succ, sm_nth (M := M) (m := m) (by omega), fb_ct_succ]
    by_cases q : P m = true
    · have lt := ct_lt q (show m < M by omega)
      have e := nth_t lt
      have e2 := ct_inj e.2.1 q e.2.2
      rw [if_pos q, if_pos q, fb_sm_succ, e2]
    · rw [if_neg q, if_neg q]; rfl
