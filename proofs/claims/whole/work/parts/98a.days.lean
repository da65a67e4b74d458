/-- the matchings, in the class' order -/
def ML : List (Nat → Nat) := mt_go 5 0 (fun k => k)
def mtc (k : Nat) : Nat → Nat := ML.getD k (fun k => k)
theorem ML_len : ML.length = 76 := by decide +kernel
theorem ML_all : ML.all (fun x => (List.range 6).all (fun k => decide (x k < 6) && decide (x (x k) = k))) = true := by decide +kernel
theorem ML_0 : ((List.range 6).all (fun k => decide (mtc 0 k = k))) = true := by decide +kernel
theorem ML_has : pl6.all (fun x => !((List.range 6).all (fun k => decide (x (x k) = k))) || ML.any (fun y => (List.range 6).all (fun k => decide (x k = y k)))) = true := by decide +kernel
theorem mt_all_k {k : Nat} (hk : k < 76) : mt_all.getD k 0 = pk (mtc k) := by
  have h : k < ML.length := by rw [ML_len]; exact hk
  show (ML.map pk).getD k 0 = pk (ML.getD k (fun k => k))
  rw [List.getD_eq_getElem?_getD, List.getD_eq_getElem?_getD, List.getElem?_map, List.getElem?_eq_getElem h]
  rfl
/-- a row that is a matching -/
def Iv (x : Nat → Nat) : Prop := Pm x ∧ ∀ k, k < 6 → x (x k) = k
/-- the class' rows as functions that stay beyond 6 -/
def mx6 (k : Nat) : Nat → Nat := fun q => if q < 6 then mtc k q else q
theorem mtc_in {k : Nat} (hk : k < 76) : mtc k ∈ ML := by
  unfold mtc
  have h : k < ML.length := by rw [ML_len]; exact hk
  rw [List.getD_eq_getElem?_getD, List.getElem?_eq_getElem h]
  exact List.getElem_mem h
theorem mx6_t {k : Nat} (hk : k < 76) : Iv (mx6 k) := by
  have h := List.all_eq_true.mp ML_all _ (mtc_in hk)
  have h6 : ∀ q, q < 6 → mtc k q < 6 ∧ mtc k (mtc k q) = q := fun q hq => by
    have := List.all_eq_true.mp h q (List.mem_range.mpr hq)
    rw [Bool.and_eq_true, decide_eq_true_eq, decide_eq_true_eq] at this
    exact this
  have e : ∀ q, q < 6 → mx6 k q = mtc k q := fun q hq => if_pos hq
  refine ⟨⟨fun q hq => by rw [e q hq]; exact (h6 q hq).1, fun i j hi hj z => ?_, fun q hq => if_neg (by omega)⟩, fun q hq => ?_⟩
  · rw [e i hi, e j hj] at z
    have h1 := (h6 i hi).2
    rw [z, (h6 j hj).2] at h1
    exact h1.symm
  · rw [e q hq, e _ (h6 q hq).1, (h6 q hq).2]
theorem pk_mx6 (k : Nat) : pk (mtc k) = pk (mx6 k) := pk_cong (fun q hq => (if_pos hq).symm)
theorem mx6_0 : mx6 0 = fun k => k := by
  funext q
  unfold mx6
  split
  · exact of_decide_eq_true (List.all_eq_true.mp ML_0 q (List.mem_range.mpr (by assumption)))
  · rfl
theorem mx6_has {x : Nat → Nat} (hx : Iv x) : ∃ k, k < 76 ∧ mx6 k = x := by
  have h := hx.1.all ML_has
  rw [show (List.range 6).all (fun k => decide (x (x k) = k)) = true from List.all_eq_true.mpr (fun k hk => decide_eq_true (hx.2 k (List.mem_range.mp hk))), Bool.not_true, Bool.false_or] at h
  obtain ⟨y, hy, e⟩ := List.any_eq_true.mp h
  obtain ⟨k, hk, ek⟩ := List.getElem_of_mem hy
  refine ⟨k, by rw [ML_len] at hk; exact hk, ?_⟩
  funext q
  unfold mx6 mtc
  split
  · have := of_decide_eq_true (List.all_eq_true.mp e q (List.mem_range.mpr (by assumption)))
    rw [List.getD_eq_getElem?_getD, List.getElem?_eq_getElem hk, this, ← ek]
    rfl
  · rw [hx.1.2.2 q (by omega)]
/-- a matching of those who are there, and will -/
def VM (n w : Nat) (x : Nat → Nat) : Prop := Tb n x ∧ (∀ k, k < 6 → x (x k) = k) ∧ ∀ p, p < 6 → w / 2 ^ p % 2 = 1 → x p = p
def mls (F : Nat → Nat → Nat) (n : Nat) (x : Nat → Nat) : Nat := fb_sm (fun p => F p (x p)) n
/-- all is well behind a change of coats, by those who must have theirs -/
def wlb (b : Nat) (y : Nat → Nat) : Bool := ow y b
theorem VM.id (n w : Nat) : VM n w (fun k => k) := ⟨Tb.id n, fun _ _ => rfl, fun _ _ _ => rfl⟩
/-- those who must have theirs stay the same when only willing people change -/
theorem bnd_mv {n w : Nat} (hn : n ≤ 6) {t x : Nat → Nat} (ht : Tb n t) (hx : Tb n x) (hw : ∀ p, p < 6 → w / 2 ^ p % 2 = 1 → x p = p) : bnd n w (fun k => t (x k)) = bnd n w t := by
  have htx : Tb n (fun k => t (x k)) := ⟨ht.1.comp hx.1, fun k hk => by show t (x k) = k; rw [hx.2 k hk, ht.2 k hk]⟩
  apply b_ext (bnd_lt n w _ hn) (bnd_lt n w t hn)
  intro p hp
  rw [bnd_bit hn htx.2 htx.1 hp, bnd_bit hn ht.2 ht.1 hp]
  have h1 := (iv_t ht.1 hp)
  have h2 := (iv_t hx.1 h1.2.1)
  have e : iv (fun k => t (x k)) p = iv x (iv t p) := by
    have h3 : t (x (iv x (iv t p))) = p := by rw [h2.1, h1.1]
    have h4 := (iv_t htx.1 h2.2.1).2.2
    rw [h3] at h4
    exact h4
  rw [e]
  have key : w / 2 ^ iv x (iv t p) % 2 = 1 ↔ w / 2 ^ iv t p % 2 = 1 := by
    constructor
    · intro z
      have := hw _ h2.2.1 z
      rw [h2.1] at this
      rwa [← this] at z
    · intro z
      have := hw _ h1.2.1 z
      have h5 := (iv_t hx.1 h1.2.1).2.2
      rw [this] at h5
      rwa [h5]
  rw [key]
/-- two matchings make any row -/
def rfl_ (r : Nat → Nat) (p : Nat) : Nat := (List.range 6).foldr (fun i acc => if itr r i (tz (rg r p)) = p then itr (iv r) i (tz (rg r p)) else acc) p
theorem two_all : pl6.all (fun r => (List.range 6).all (fun p => decide (rfl_ r p < 6) && decide (rfl_ r (rfl_ r p) = p) && decide (rfl_ r (r (rfl_ r (r p))) = p) && (!decide (r p = p) || decide (rfl_ r p = p)))) = true := by decide +kernel
theorem two_t {n w : Nat} (hn : n ≤ 6) {r : Nat → Nat} (hr : Tb n r) (hw : ∀ p, p < 6 → w / 2 ^ p % 2 = 1 → r p = p) : ∃ a b, VM n w a ∧ VM n w b ∧ ∀ p, p < 6 → a (b p) = r p := by
  have h := hr.1.all two_all
  have g : ∀ p, p < 6 → rfl_ r p < 6 ∧ rfl_ r (rfl_ r p) = p ∧ rfl_ r (r (rfl_ r (r p))) = p ∧ (r p = p → rfl_ r p = p) := fun p hp => by
    have := List.all_eq_true.mp h p (List.mem_range.mpr hp)
    simp only [Bool.and_eq_true, Bool.or_eq_true, Bool.not_eq_true', decide_eq_true_eq, decide_eq_false_iff_not] at this
    exact ⟨this.1.1.1, this.1.1.2, this.1.2, fun z => this.2.elim (fun y => absurd z y) id⟩
  let a : Nat → Nat := fun k => if k < 6 then rfl_ r k else k
  have ea : ∀ k, k < 6 → a k = rfl_ r k := fun k hk => if_pos hk
  have pa : Pm a := by
    refine ⟨fun k hk => by rw [ea k hk]; exact (g k hk).1, fun i j hi hj z => ?_, fun k hk => if_neg (by omega)⟩
    rw [ea i hi, ea j hj] at z
    have h1 := (g i hi).2.1
    rw [z, (g j hj).2.1] at h1
    exact h1.symm
  have fa : ∀ k, r k = k → a k = k := fun k z => by
    by_cases q : k < 6
    · rw [ea k q]; exact (g k q).2.2.2 z
    · exact if_neg q
  have ta : Tb n a := ⟨pa, fun k hk => fa k (hr.2 k hk)⟩
  have tb : Tb n (fun k => a (r k)) := ⟨pa.comp hr.1, fun k hk => by show a (r k) = k; rw [hr.2 k hk]; exact fa k (hr.2 k hk)⟩
  refine ⟨a, fun k => a (r k), ⟨ta, fun k hk => ?_, fun p hp z => fa p (hw p hp z)⟩, ⟨tb, fun k hk => ?_, fun p hp z => ?_⟩, fun p hp => ?_⟩
  · rw [ea k hk, ea _ (g k hk).1]; exact (g k hk).2.1
  · have hrk := hr.1.1 k hk
    have h1 := (g _ hrk).1
    show a (r (a (r k))) = k
    rw [ea _ hrk, ea _ (hr.1.1 _ h1)]
    exact (g k hk).2.2.1
  · show a (r p) = p
    rw [hw p hp z]; exact fa p (hw p hp z)
  · have hrk := hr.1.1 p hp
    show a (a (r p)) = r p
    rw [ea _ hrk, ea _ (g _ hrk).1]; exact (g _ hrk).2.1
/-- a row that passes those by who won't -/
theorem pass_by {n w : Nat} (hn : n ≤ 6) {t : Nat → Nat} (ht : Tb n t) : ∀ k, k ≤ 6 → ∃ u, Tb n u ∧ (∀ p, p < k → w / 2 ^ p % 2 = 1 → u p = p) ∧ ∀ x, x < 6 → ¬ w / 2 ^ x % 2 = 1 → ¬ w / 2 ^ t x % 2 = 1 → u x = t x
  | 0, _ => ⟨t, ht, fun p hp => absurd hp (Nat.not_lt_zero _), fun _ _ _ _ => rfl⟩
  | k + 1, hk => by
    obtain ⟨u, hu, h1, h2⟩ := pass_by hn ht k (by omega)
    by_cases q : w / 2 ^ k % 2 = 1
    · have hiv := iv_t hu.1 (show k < 6 by omega)
      by_cases e : iv u k = k
      · refine ⟨u, hu, fun p hp z => ?_, h2⟩
        by_cases y : p = k
        · subst y
          have := hiv.1
          rwa [e] at this
        · exact h1 p (by omega) z
      · have hpm := sw_pm hu.1 (show k < 6 by omega) hiv.2.1
        refine ⟨sw u k (iv u k), ⟨hpm, ?_⟩, fun p hp z => ?_, fun x hx a b => ?_⟩
        · intro p hp
          rw [sw_eq]
          show (if p = k then u (iv u k) else if p = iv u k then u k else u p) = p
          by_cases y : p = k
          · rw [if_pos y, hiv.1, y]
          · rw [if_neg y]
            by_cases z : p = iv u k
            · have := hu.2 p hp
              rw [z, hiv.1] at this
              exact absurd this.symm e
            · rw [if_neg z]; exact hu.2 p hp
        · rw [sw_eq]
          show (if p = k then u (iv u k) else if p = iv u k then u k else u p) = p
          by_cases y : p = k
          · rw [if_pos y, hiv.1, y]
          · rw [if_neg y]
            by_cases x : p = iv u k
            · have h3 := h1 p (by omega) z
              rw [x, hiv.1] at h3
              exact absurd h3.symm e
            · rw [if_neg x]; exact h1 p (by omega) z
        · rw [sw_eq]
          show (if x = k then u (iv u k) else if x = iv u k then u k else u x) = t x
          rw [if_neg (fun y => a (by rw [y]; exact q)), if_neg (fun y => ?_)]
          · exact h2 x hx a b
          · have h3 := h2 x hx a b
            rw [y, hiv.1] at h3
            rw [y] at b
            rw [← h3] at b
            exact b q
    · refine ⟨u, hu, fun p hp z => ?_, h2⟩
      by_cases y : p = k
      · subst y; exact absurd z q
      · exact h1 p (by omega) z
theorem two_days {n w : Nat} (hn : n ≤ 6) {t : Nat → Nat} (ht : Tb n t) : ∃ a b, VM n w a ∧ VM n w b ∧ ow (fun k => t (a (b k))) (bnd n w t) = true := by
  obtain ⟨u, hu, h1, h2⟩ := pass_by (w := w) hn ht 6 (Nat.le_refl _)
  have hiu : Tb n (iv u) := ⟨hu.1.iv, iv_fix hu.1 hn hu.2⟩
  obtain ⟨a, b, ha, hb, e⟩ := two_t (w := w) hn hiu (fun p hp z => by
    have := (iv_t hu.1 hp).2.2
    rwa [h1 p hp z] at this)
  refine ⟨a, b, ha, hb, ow_iff.mpr (fun p hp z => ?_)⟩
  rw [bnd_bit hn ht.2 ht.1 hp] at z
  show t (a (b p)) = p
  rw [e p hp]
  have hi := iv_t ht.1 hp
  have h3 := h2 _ hi.2.1 z.2.2 (by rw [hi.1]; exact z.2.1)
  rw [hi.1] at h3
  have h4 := (iv_t hu.1 hi.2.1).2.2
  rw [h3] at h4
  rw [h4, hi.1]
