theorem rgE_all : pl6.all (fun t => (List.range 6).all (fun p => (!decide (t p = p) || decide (rg t p = 2 ^ p)) && decide (rg t p / 2 ^ iv t p % 2 = 1) && (List.range 6).all (fun q => !decide (rg t p / 2 ^ q % 2 = 1) || decide (rg t q = rg t p)))) = true := by decide +kernel
theorem rgE {t : Nat → Nat} (ht : Pm t) {p : Nat} (hp : p < 6) : (t p = p → rg t p = 2 ^ p) ∧ rg t p / 2 ^ iv t p % 2 = 1 ∧ ∀ q, q < 6 → rg t p / 2 ^ q % 2 = 1 → rg t q = rg t p := by
  have h := List.all_eq_true.mp (ht.all rgE_all) p (List.mem_range.mpr hp)
  simp only [Bool.and_eq_true, Bool.or_eq_true, Bool.not_eq_true', decide_eq_true_eq, decide_eq_false_iff_not, List.all_eq_true, List.mem_range] at h
  exact ⟨fun z => h.1.1.elim (fun y => absurd z y) id, h.1.2, fun q hq z => (h.2 q hq).elim (fun y => absurd z y) id⟩
theorem tz_all : (List.range 64).all (fun s => decide (s = 0) || (decide (tz s < 6) && decide (s / 2 ^ tz s % 2 = 1))) = true := by decide +kernel
theorem tz_t {s : Nat} (hs : s < 64) (h0 : ¬ s = 0) : tz s < 6 ∧ s / 2 ^ tz s % 2 = 1 := by
  have h := List.all_eq_true.mp tz_all s (List.mem_range.mpr hs)
  rw [decide_eq_false h0, Bool.false_or, Bool.and_eq_true, decide_eq_true_eq, decide_eq_true_eq] at h
  exact h
theorem tz_pow : ∀ p, p < 6 → tz (2 ^ p) = p := by decide
/-- one for a ring without any who won't -/
def fw (w s : Nat) : Nat := if s &&& w = 0 then 1 else 0
def tB (t : Nat → Nat) (w p : Nat) : Nat := if tz (rg t p) = p then fw w (rg t p) else 0
def B6 (t : Nat → Nat) (w : Nat) : Nat := fb_sm (tB t w) 6
theorem fw_le (w s : Nat) : fw w s ≤ 1 := by unfold fw; split <;> omega
theorem and_0 {s w q : Nat} (h : s &&& w = 0) (hs : s / 2 ^ q % 2 = 1) : ¬ w / 2 ^ q % 2 = 1 := fun hw => by
  have := (b_and s w q).mpr ⟨hs, hw⟩
  rw [h] at this
  exact b_zero q this
theorem fw_0 {s w q : Nat} (hs : s / 2 ^ q % 2 = 1) (hw : w / 2 ^ q % 2 = 1) : fw w s = 0 := if_neg (fun z => and_0 z hs hw)
theorem or_and_0 {a b w : Nat} : (a ||| b) &&& w = 0 ↔ a &&& w = 0 ∧ b &&& w = 0 := by
  rw [Nat.and_or_distrib_right]
  exact Nat.or_eq_zero_iff
theorem B6_le (t : Nat → Nat) (w : Nat) : B6 t w ≤ 6 := by
  have : B6 t w ≤ fb_sm (fun _ => 1) 6 := fb_sm_le (fun p _ => by unfold tB; split; exact fw_le w _; omega)
  rw [fb_sm_const] at this
  omega
theorem sm_pt {x v : Nat} (hx : x < 6) : fb_sm (fun p => if p = x then v else 0) 6 = v := sm_one hx
theorem B6_split {t u : Nat → Nat} (ht : Pm t) (hu : Pm u) {i j w : Nat} (hi : i < 6) (hj : j < 6) (h : spC t u (rg u i) (rg u j) (rg t i) = true) : B6 u w + fw w (rg t i) = B6 t w + fw w (rg u i) + fw w (rg u j) ∧ rg u i ||| rg u j = rg t i := by
  unfold spC at h
  simp only [Bool.and_eq_true, decide_eq_true_eq, List.all_eq_true, List.mem_range] at h
  obtain ⟨⟨h1, h2⟩, h3⟩ := h
  refine ⟨?_, h1⟩
  obtain ⟨-, -, a64, ai⟩ := rg_t hu hi
  obtain ⟨-, -, b64, bj⟩ := rg_t hu hj
  obtain ⟨-, -, c64, ci⟩ := rg_t ht hi
  have na : ¬ rg u i = 0 := fun z => by rw [z] at ai; exact b_zero i ai
  have nb : ¬ rg u j = 0 := fun z => by rw [z] at bj; exact b_zero j bj
  have nc : ¬ rg t i = 0 := fun z => by rw [z] at ci; exact b_zero i ci
  have ta := tz_t a64 na
  have tb := tz_t b64 nb
  have tc := tz_t c64 nc
  have dis : ∀ q, rg u i / 2 ^ q % 2 = 1 → ¬ rg u j / 2 ^ q % 2 = 1 := fun q z => and_0 h2 z
  have un : ∀ q, rg t i / 2 ^ q % 2 = 1 ↔ rg u i / 2 ^ q % 2 = 1 ∨ rg u j / 2 ^ q % 2 = 1 := fun q => by rw [← h1, b_orr]
  have key : ∀ p, p < 6 → tB u w p + (if p = tz (rg t i) then fw w (rg t i) else 0) = (tB t w p + (if p = tz (rg u i) then fw w (rg u i) else 0)) + (if p = tz (rg u j) then fw w (rg u j) else 0) := by
    intro p hp
    have e3 := h3 p hp
    by_cases pa : rg u i / 2 ^ p % 2 = 1
    · rw [if_pos pa] at e3
      have pc := (un p).mpr (Or.inl pa)
      have ec := (rgE ht hi).2.2 p hp pc
      have n1 : ¬ p = tz (rg u j) := fun z => dis p pa (by rw [z]; exact tb.2)
      unfold tB
      rw [e3, ec, if_neg n1]
      have c1 : (tz (rg u i) = p) = (p = tz (rg u i)) := propext ⟨Eq.symm, Eq.symm⟩
      have c2 : (tz (rg t i) = p) = (p = tz (rg t i)) := propext ⟨Eq.symm, Eq.symm⟩
      simp only [c1, c2]
      omega
    · rw [if_neg pa] at e3
      by_cases pb : rg u j / 2 ^ p % 2 = 1
      · rw [if_pos pb] at e3
        have pc := (un p).mpr (Or.inr pb)
        have ec := (rgE ht hi).2.2 p hp pc
        have n1 : ¬ p = tz (rg u i) := fun z => pa (by rw [z]; exact ta.2)
        unfold tB
        rw [e3, ec, if_neg n1]
        have c1 : (tz (rg u j) = p) = (p = tz (rg u j)) := propext ⟨Eq.symm, Eq.symm⟩
        have c2 : (tz (rg t i) = p) = (p = tz (rg t i)) := propext ⟨Eq.symm, Eq.symm⟩
        simp only [c1, c2]
        omega
      · rw [if_neg pb] at e3
        have n1 : ¬ p = tz (rg u i) := fun z => pa (by rw [z]; exact ta.2)
        have n2 : ¬ p = tz (rg u j) := fun z => pb (by rw [z]; exact tb.2)
        have n3 : ¬ p = tz (rg t i) := fun z => by
          have := tc.2
          rw [← z, un] at this
          exact this.elim pa pb
        unfold tB
        rw [e3, if_neg n1, if_neg n2, if_neg n3]
  have s := fb_sm_cong key
  rw [fb_sm_add, fb_sm_add, fb_sm_add, sm_pt ta.1, sm_pt tb.1, sm_pt tc.1] at s
  exact s
theorem fw_or {a b w : Nat} : fw w a + fw w b ≤ fw w (a ||| b) + 1 ∧ fw w (a ||| b) ≤ fw w a ∧ fw w (a ||| b) ≤ fw w b := by
  unfold fw
  by_cases q : (a ||| b) &&& w = 0
  · have := or_and_0.mp q
    rw [if_pos q, if_pos this.1, if_pos this.2]
    omega
  · rw [if_neg q]
    by_cases x : a &&& w = 0
    · rw [if_pos x, if_neg (fun y => q (or_and_0.mpr ⟨x, y⟩))]
      omega
    · rw [if_neg x]
      split <;> omega
theorem sw_sw {t : Nat → Nat} {i j : Nat} (hij : ¬ i = j) : sw (sw t i j) i j = t := by
  funext k
  rw [sw_eq, sw_eq]
  show (if k = i then (if j = i then t j else if j = j then t i else t j) else if k = j then (if i = i then t j else if i = j then t i else t i) else (if k = i then t j else if k = j then t i else t k)) = t k
  by_cases a : k = i
  · rw [if_pos a, if_neg (fun z => hij z.symm), if_pos rfl, a]
  · rw [if_neg a]
    by_cases b : k = j
    · rw [if_pos b, if_pos rfl, b]
    · rw [if_neg b, if_neg a, if_neg b]
theorem B6_sw {t : Nat → Nat} (ht : Pm t) {i j w : Nat} (hij : i < j) (hj : j < 6) : B6 (sw t i j) w ≤ B6 t w + 1 := by
  have hu := sw_pm ht (show i < 6 by omega) hj
  have h := sp_ij ht hij hj
  unfold spB at h
  by_cases q : rg t i / 2 ^ j % 2 = 1
  · rw [if_pos q] at h
    obtain ⟨e, o⟩ := B6_split (w := w) ht hu (show i < 6 by omega) hj h
    have := (fw_or (a := rg (sw t i j) i) (b := rg (sw t i j) j) (w := w)).1
    rw [o] at this
    omega
  · rw [if_neg q] at h
    have q2 := of_decide_eq_true h
    have h2 := sp_ij hu hij hj
    unfold spB at h2
    rw [if_pos q2, sw_sw (by omega)] at h2
    obtain ⟨e, o⟩ := B6_split (w := w) hu ht (show i < 6 by omega) hj h2
    have := (fw_or (a := rg t i) (b := rg t j) (w := w)).2
    rw [o] at this
    omega
/-- a coat that its owner gets from a willing one makes one ring more -/
theorem B6_up {t : Nat → Nat} (ht : Pm t) {p q w : Nat} (hp : p < 6) (hq : q < 6) (hpq : ¬ p = q) (e : t q = p) (hw : ¬ w / 2 ^ p % 2 = 1) : B6 (sw t (if p < q then p else q) (if p < q then q else p)) w = B6 t w + 1 := by
  have key : ∀ i j, i < j → j < 6 → (i = p ∧ j = q) ∨ (i = q ∧ j = p) → B6 (sw t i j) w = B6 t w + 1 := by
    intro i j hij hj hor
    have hu := sw_pm ht (show i < 6 by omega) hj
    have h := sp_ij ht hij hj
    have eiv : iv t p = q := by
      have := (iv_t ht hq).2.2
      rwa [e] at this
    have inq : rg t p / 2 ^ q % 2 = 1 := by
      have := (rgE ht hp).2.1
      rwa [eiv] at this
    have rpq : rg t q = rg t p := (rgE ht hp).2.2 q hq inq
    have rp := (rg_t ht hp).2.2.2
    have rij : rg t i / 2 ^ j % 2 = 1 := by
      rcases hor with ⟨a, b⟩ | ⟨a, b⟩
      · rw [a, b]; exact inq
      · rw [a, b, rpq]; exact rp
    unfold spB at h
    rw [if_pos rij] at h
    obtain ⟨e2, o⟩ := B6_split (w := w) ht hu (show i < 6 by omega) hj h
    have fx : sw t i j p = p := by
      rw [sw_eq]
      show (if p = i then t j else if p = j then t i else t p) = p
      rcases hor with ⟨a, b⟩ | ⟨a, b⟩
      · rw [if_pos a.symm, b, e]
      · rw [if_neg (by omega), if_pos b.symm, a, e]
    have r1 := (rgE hu hp).1 fx
    have f1 : fw w (2 ^ p) = 1 := by
      refine if_pos (Classical.byContradiction (fun z => ?_))
      obtain ⟨k, hk, hb⟩ := s_ne (and_63 (a := 2 ^ p) (b := w) (p6_lt hp)) z
      rw [b_and, b_pow] at hb
      rw [hb.1] at hw
      exact hw hb.2
    have f2 : ∀ s, fw w (2 ^ p ||| s) = fw w s := fun s => by
      have z : 2 ^ p &&& w = 0 := Classical.byContradiction (fun y => by unfold fw at f1; rw [if_neg y] at f1; cases f1)
      unfold fw
      by_cases y : s &&& w = 0
      · rw [if_pos (or_and_0.mpr ⟨z, y⟩), if_pos y]
      · rw [if_neg (fun x => y (or_and_0.mp x).2), if_neg y]
    rcases hor with ⟨a, b⟩ | ⟨a, b⟩
    · subst a
      subst b
      rw [← o, r1, f2, f1] at e2
      omega
    · subst a
      subst b
      rw [← o, r1, Nat.or_comm, f2, f1] at e2
      omega
  by_cases z : p < q
  · rw [if_pos z, if_pos z]; exact key p q z hq (Or.inl ⟨rfl, rfl⟩)
  · rw [if_neg z, if_neg z]; exact key q p (by omega) hp (Or.inr ⟨rfl, rfl⟩)
theorem whd_sw {n w : Nat} (hn : n ≤ 6) {t : Nat → Nat} (ht : Pm t) {i j : Nat} (hi : i < 6) (hj : j < 6) (wi : ¬ w / 2 ^ i % 2 = 1) (wj : ¬ w / 2 ^ j % 2 = 1) : whd w (sw t i j) n = whd w t n := by
  apply b_ext (whd_lt w (sw_pm ht hi hj) n hn) (whd_lt w ht n hn)
  intro q hq
  rw [whd_bit, whd_bit]
  have e : ∀ r, w / 2 ^ r % 2 = 1 → sw t i j r = t r := fun r hr => by
    rw [sw_eq]
    show (if r = i then t j else if r = j then t i else t r) = t r
    rw [if_neg (fun z => wi (by rw [← z]; exact hr)), if_neg (fun z => wj (by rw [← z]; exact hr))]
  exact ⟨fun ⟨r, h1, h2, h3⟩ => ⟨r, h1, h2, by rw [← e r h2]; exact h3⟩, fun ⟨r, h1, h2, h3⟩ => ⟨r, h1, h2, by rw [e r h2]; exact h3⟩⟩
/-- pairs till all is well -/
def PW (n w : Nat) : Nat → (Nat → Nat) → Prop
  | 0, t => ow t (bnd n w t) = true
  | k + 1, t => ∃ i j, i < j ∧ j < n ∧ ¬ w / 2 ^ i % 2 = 1 ∧ ¬ w / 2 ^ j % 2 = 1 ∧ PW n w k (sw t i j)
def wl_ (n w : Nat) : Nat := (2 ^ n - 1) &&& (63 ^^^ w)
def Pk (n w : Nat) (t : Nat → Nat) (k : Nat) : Prop := pop (wl_ n w) + (6 - n) = pop (wl_ n w &&& whd w t n) + B6 t w + k
theorem Tb.sw {n : Nat} (hn : n ≤ 6) {t : Nat → Nat} (ht : Tb n t) {i j : Nat} (hij : i < j) (hj : j < n) : Tb n (CCoatRingsLaw_law_r2905_77f6d0.sw t i j) := ⟨sw_pm ht.1 (by omega) (by omega), sw_fx (by omega) hj ht.2⟩
theorem sm_ge {n : Nat} (hn : n ≤ 6) : fb_sm (fun p => if n ≤ p then 1 else 0) 6 = 6 - n := by
  have h : ∀ n, n < 7 → fb_sm (fun p => if n ≤ p then 1 else 0) 6 = 6 - n := by decide
  exact h n (by omega)
theorem tB_own {t : Nat → Nat} (ht : Pm t) {p w : Nat} (hp : p < 6) (e : t p = p) (hw : ¬ w / 2 ^ p % 2 = 1) : tB t w p = 1 := by
  unfold tB
  rw [(rgE ht hp).1 e, tz_pow p hp, if_pos rfl]
  refine if_pos (Classical.byContradiction (fun z => ?_))
  obtain ⟨k, hk, hb⟩ := s_ne (and_63 (a := 2 ^ p) (b := w) (p6_lt hp)) z
  rw [b_and, b_pow] at hb
  rw [hb.1] at hw
  exact hw hb.2
theorem wl_bit {n w p : Nat} (hp : p < 6) : wl_ n w / 2 ^ p % 2 = 1 ↔ p < n ∧ ¬ w / 2 ^ p % 2 = 1 := by
  unfold wl_
  rw [b_and, b_low, b_not _ hp]
theorem Pk_well {n w : Nat} (hn : n ≤ 6) (hw : w < 2 ^ n) {t : Nat → Nat} (ht : Tb n t) (h : ow t (bnd n w t) = true) : Pk n w t 0 := by
  have ho := ow_iff.mp h
  have key : ∀ p, p < 6 → wl_ n w / 2 ^ p % 2 + (if n ≤ p then 1 else 0) = (wl_ n w &&& whd w t n) / 2 ^ p % 2 + tB t w p := by
    intro p hp
    have w01 := b_01 (wl_ n w) p
    have a01 := b_01 (wl_ n w &&& whd w t n) p
    by_cases q : n ≤ p
    · have n1 : ¬ wl_ n w / 2 ^ p % 2 = 1 := fun z => by have := (wl_bit hp).mp z; omega
      have n2 : ¬ (wl_ n w &&& whd w t n) / 2 ^ p % 2 = 1 := fun z => n1 ((b_and _ _ _).mp z).1
      rw [if_pos q, tB_own ht.1 hp (ht.2 p q) (b_out hw q)]
      omega
    · rw [if_neg q]
      by_cases wp : w / 2 ^ p % 2 = 1
      · have n1 : ¬ wl_ n w / 2 ^ p % 2 = 1 := fun z => ((wl_bit hp).mp z).2 wp
        have n2 : ¬ (wl_ n w &&& whd w t n) / 2 ^ p % 2 = 1 := fun z => n1 ((b_and _ _ _).mp z).1
        have : tB t w p = 0 := by
          unfold tB
          rw [fw_0 (rg_t ht.1 hp).2.2.2 wp]
          split <;> rfl
        omega
      · have y1 : wl_ n w / 2 ^ p % 2 = 1 := (wl_bit hp).mpr ⟨by omega, wp⟩
        have hi := iv_t ht.1 hp
        by_cases wh : w / 2 ^ iv t p % 2 = 1
        · have y2 : (wl_ n w &&& whd w t n) / 2 ^ p % 2 = 1 := (b_and _ _ _).mpr ⟨y1, (whd_bit w p n).mpr ⟨iv t p, iv_in ht.1 hn ht.2 (by omega), wh, hi.1⟩⟩
          have : tB t w p = 0 := by
            unfold tB
            rw [fw_0 (rgE ht.1 hp).2.1 wh]
            split <;> rfl
          omega
        · have n2 : ¬ (wl_ n w &&& whd w t n) / 2 ^ p % 2 = 1 := fun z => by
            obtain ⟨r, h1, h2, h3⟩ := (whd_bit w p n).mp ((b_and _ _ _).mp z).2
            apply wh
            rw [← h3, (iv_t ht.1 (show r < 6 by omega)).2.2]
            exact h2
          have own := ho p hp ((bnd_bit hn ht.2 ht.1 hp).mpr ⟨by omega, wp, wh⟩)
          rw [tB_own ht.1 hp own wp]
          omega
  have s := fb_sm_cong key
  rw [fb_sm_add, fb_sm_add, sm_ge hn] at s
  unfold Pk
  rw [pop_sm, pop_sm]
  show _ = _ + fb_sm (tB t w) 6 + 0
  exact s
theorem PW_ex {n w : Nat} (hn : n ≤ 6) (hw : w < 2 ^ n) : ∀ d t, Tb n t → B6 t w + d = 6 → ∃ k, Pk n w t k ∧ PW n w k t := by
  intro d
  induction d with
  | zero =>
    intro t ht hd
    by_cases q : ow t (bnd n w t) = true
    · exact ⟨0, Pk_well hn hw ht q, q⟩
    · exfalso
      obtain ⟨p, hp, hb, hne⟩ : ∃ p, p < 6 ∧ bnd n w t / 2 ^ p % 2 = 1 ∧ ¬ t p = p := by
        apply Classical.byContradiction
        intro z
        exact q (ow_iff.mpr (fun p hp hb => Classical.byContradiction (fun y => z ⟨p, hp, hb, y⟩)))
      obtain ⟨h1, h2, h3⟩ := (bnd_bit hn ht.2 ht.1 hp).mp hb
      have hi := iv_t ht.1 hp
      have ne : ¬ p = iv t p := fun z => hne (by have := hi.1; rw [← z] at this; exact this)
      have up := B6_up ht.1 hp hi.2.1 ne hi.1 h2
      have := B6_le (sw t (if p < iv t p then p else iv t p) (if p < iv t p then iv t p else p)) w
      omega
  | succ d ih =>
    intro t ht hd
    by_cases q : ow t (bnd n w t) = true
    · exact ⟨0, Pk_well hn hw ht q, q⟩
    · obtain ⟨p, hp, hb, hne⟩ : ∃ p, p < 6 ∧ bnd n w t / 2 ^ p % 2 = 1 ∧ ¬ t p = p := by
        apply Classical.byContradiction
        intro z
        exact q (ow_iff.mpr (fun p hp hb => Classical.byContradiction (fun y => z ⟨p, hp, hb, y⟩)))
      obtain ⟨h1, h2, h3⟩ := (bnd_bit hn ht.2 ht.1 hp).mp hb
      have hi := iv_t ht.1 hp
      have hin := iv_in ht.1 hn ht.2 h1
      have ne : ¬ p = iv t p := fun z => hne (by have := hi.1; rw [← z] at this; exact this)
      have up := B6_up ht.1 hp hi.2.1 ne hi.1 h2
      have go : ∀ i j, i < j → j < n → ¬ w / 2 ^ i % 2 = 1 → ¬ w / 2 ^ j % 2 = 1 → B6 (sw t i j) w = B6 t w + 1 → ∃ k, Pk n w t k ∧ PW n w k t := by
        intro i j hij hj wi wj e
        obtain ⟨k, k1, k2⟩ := ih _ (ht.sw hn hij hj) (by omega)
        refine ⟨k + 1, ?_, i, j, hij, hj, wi, wj, k2⟩
        unfold Pk at k1 ⊢
        rw [whd_sw hn ht.1 (by omega) (by omega) wi wj] at k1
        omega
      by_cases z : p < iv t p
      · rw [if_pos z, if_pos z] at up; exact go _ _ z hin h2 h3 up
      · rw [if_neg z, if_neg z] at up; exact go _ _ (by omega) h1 h3 h2 up
theorem PW_le {n w : Nat} (hn : n ≤ 6) (hw : w < 2 ^ n) : ∀ u t, Tb n t → PW n w u t → ∀ k, Pk n w t k → k ≤ u := by
  intro u
  induction u with
  | zero =>
    intro t ht h k hk
    have := Pk_well hn hw ht h
    unfold Pk at this hk
    omega
  | succ u ih =>
    intro t ht ⟨i, j, hij, hj, wi, wj, h⟩ k hk
    have hs := ht.sw hn hij hj
    obtain ⟨k2, p2, -⟩ := PW_ex hn hw _ _ hs (Nat.add_sub_cancel' (B6_le (sw t i j) w))
    have := ih _ hs h k2 p2
    have b := B6_sw (w := w) ht.1 hij (show j < 6 by omega)
    unfold Pk at hk p2
    rw [whd_sw hn ht.1 (by omega) (by omega) wi wj] at p2
    omega
theorem PW_min {n w : Nat} (hn : n ≤ 6) (hw : w < 2 ^ n) {t : Nat → Nat} (ht : Tb n t) : ∃ k, Pk n w t k ∧ LM (fun u => PW n w u t) k := by
  obtain ⟨k, k1, k2⟩ := PW_ex hn hw _ t ht (Nat.add_sub_cancel' (B6_le t w))
  exact ⟨k, k1, k2, fun u hu => PW_le hn hw u t ht hu k k1⟩
theorem B6_n {n w : Nat} (hn : n ≤ 6) (hw : w < 2 ^ n) {t : Nat → Nat} (ht : Tb n t) : B6 t w = fb_sm (tB t w) n + (6 - n) := by
  have : ∀ k, n + k ≤ 6 → fb_sm (tB t w) (n + k) = fb_sm (tB t w) n + k := by
    intro k
    induction k with
    | zero => intro _; rfl
    | succ k ih =>
      intro h
      rw [← Nat.add_assoc, fb_sm_succ, ih (by omega), tB_own ht.1 (by omega) (ht.2 _ (by omega)) (b_out hw (by omega))]
      omega
  have h := this (6 - n) (by omega)
  rw [show n + (6 - n) = 6 by omega] at h
  exact h
/-- the answer of fewest -/
def SPF (S : SS) (r : Int32) : Prop := ∃ v, LM (fun k => PW (N_n (S_N S)) (N_w (S_N S)) k (N_t (S_N S))) v ∧ r = nI v
theorem SPF.eq {S : SS} {r r2 : Int32} (a : SPF S r) (b : SPF S r2) : r = r2 := by
  obtain ⟨v, a1, a2⟩ := a
  obtain ⟨u, b1, b2⟩ := b
  rw [a2, b2, a1.eq b1]
theorem c_pairsToWell {m : Nat} {h : ab_H} {N : NS} (hX : NX h 2 N) (ok : N_ok N) {v : Nat} (hv : Pk (N_n N) (N_w N) (N_t N) v) : ab_D Y_Night_pairsToWell [.ref 2] m h (some (.int (nI v))) m (h) := by
  refine ab_C.of (L := [some (.ref 2), none, none, none, none]) rfl rfl (Nat.le_of_ble_eq_true rfl) (fun l => ?_)
  obtain ⟨n0, ⟨gx, hx, ax⟩, ⟨gy, hy, ay⟩, ⟨gm, hm, am⟩, ⟨gl, hl, al⟩, ⟨ga, ha, aa⟩, ⟨gi, hi, ai⟩, ⟨gj, hj0, aj⟩, ⟨gf, hf0, af⟩⟩ := id hX
  have hn6 : N_n N ≤ 6 := ok.1
  have hns : N_ns N ≤ 4 := ok.2.2.2.2.2.2.2.2.1
  have hpm := ok.pm
  have hw6 := ok.w6
  have hfx := ok.2.2.1
  have bx := ok.2.2.2.2.2.1
  have bi := ok.2.2.2.2.2.2.2.2.2.1
  have hTb : Tb (N_n N) (N_t N) := ⟨hpm, hfx⟩
  have hw2 := ok.2.2.2.2.1
  have hwh := whd_lt (N_w N) hpm (N_n N) hn6
  have hwl : wil N < 64 := two_le6 hn6 (wil_lt N)
  have loop : ∀ kf j, j + kf = N_n N → ab_W Y_Night_pairsToWell none l (fun r m2 h2 => r = some (.int (nI v)) ∧ m2 = m ∧ h2 = h) 24 [some (.ref 2), some (.int (nI (wil N))), some (.int (nI (pop (wil N &&& whd (N_w N) (N_t N) (N_n N)) + fb_sm (tB (N_t N) (N_w N)) (j)))), some (.int (nI (j))), none] [] m (h) (0, 0) := by
    intro kf
    induction kf with
    | zero =>
      intro j hj 
      have hjn : N_n N = j := by omega
      subst hjn
      refine aw_iload_n d_Night_pairsToWell_24 rfl ?_
      refine aw_aload_n d_Night_pairsToWell_25 rfl ?_
      refine aw_get (k := 0) d_Night_pairsToWell_26 cl_Night k_Night_55 (by decide) n0 rfl ?_
      refine aw_icmp_ge (tgt := 70) d_Night_pairsToWell_29 (by decide) (fun c29 => ?_) (fun c29 => ?_)
      · refine aw_iload_n d_Night_pairsToWell_70 rfl ?_
        refine aw_s0i d_Night_pairsToWell_71 k_Night_99 ok_JI_bitCount rfl ⟨rfl, rfl⟩ (c_bitCount _ hwl) rfl rfl (Nat.le_of_ble_eq_true rfl) ?_
        refine aw_iload_n d_Night_pairsToWell_74 rfl ?_
        refine aw_isub d_Night_pairsToWell_75 ?_
        refine aw_ireturn d_Night_pairsToWell_76 rfl rfl ?_
        have hB := B6_n hn6 hw2 hTb
        unfold Pk at hv
        rw [hB] at hv
        have hv : pop (wil N) + (6 - N_n N) = pop (wil N &&& whd (N_w N) (N_t N) (N_n N)) + (fb_sm (tB (N_t N) (N_w N)) (N_n N) + (6 - N_n N)) + v := hv
        exact ⟨by rw [pk_sub (by omega)]; congr 3; omega, rfl, rfl⟩
      · exact absurd (Int32.le_refl _) c29
    | succ kf ih =>
      intro j hj 
      refine aw_iload_n d_Night_pairsToWell_24 rfl ?_
      refine aw_aload_n d_Night_pairsToWell_25 rfl ?_
      refine aw_get (k := 0) d_Night_pairsToWell_26 cl_Night k_Night_55 (by decide) n0 rfl ?_
      refine aw_icmp_ge (tgt := 70) d_Night_pairsToWell_29 (by decide) (fun c29 => ?_) (fun c29 => ?_)
      · exact absurd c29 (nI_ge (by omega) (by omega))
      · refine aw_aload_n d_Night_pairsToWell_32 rfl ?_
        refine aw_get (k := 6) d_Night_pairsToWell_33 cl_Night k_Night_30 (by decide) n0 rfl ?_
        refine aw_iload_n d_Night_pairsToWell_36 rfl ?_
        refine aw_s0i d_Night_pairsToWell_37 k_Night_92 ok_Rows_ring rfl ⟨rfl, rfl⟩ (c_ring hpm (show j < 6 by omega)) rfl rfl (Nat.le_of_ble_eq_true rfl) ?_
        refine aw_istore (L' := [some (.ref 2), some (.int (nI (wil N))), some (.int (nI (pop (wil N &&& whd (N_w N) (N_t N) (N_n N)) + fb_sm (tB (N_t N) (N_w N)) (j)))), some (.int (nI (j))), some (.int (nI (rg (N_t N) j)))]) d_Night_pairsToWell_40 ⟨by decide, rfl⟩ rfl ?_
        refine aw_iload d_Night_pairsToWell_42 rfl ?_
        refine aw_iload_n d_Night_pairsToWell_44 rfl ?_
        refine aw_s0i d_Night_pairsToWell_45 k_Night_95 ok_Rows_isLeast rfl ⟨rfl, rfl⟩ (c_isLeast (rg_t hpm (show j < 6 by omega)).2.2.1 (show j < 6 by omega)) rfl rfl (Nat.le_of_ble_eq_true rfl) ?_
        refine aw_if_eq (tgt := 64) d_Night_pairsToWell_48 (by decide) (fun c48 => ?_) (fun c48 => ?_)
        · refine aw_iinc (v := nI ((j) + 1)) (L' := [some (.ref 2), some (.int (nI (wil N))), some (.int (nI (pop (wil N &&& whd (N_w N) (N_t N) (N_n N)) + fb_sm (tB (N_t N) (N_w N)) (j)))), some (.int (nI ((j) + 1))), some (.int (nI (rg (N_t N) j)))]) d_Night_pairsToWell_64 rfl (nI_1 _) ⟨by decide, rfl⟩ rfl ?_
          refine aw_goto (tgt := 24) d_Night_pairsToWell_67 (by decide) ?_
          have er : fb_sm (tB (N_t N) (N_w N)) (j + 1) = fb_sm (tB (N_t N) (N_w N)) j + tB (N_t N) (N_w N) j := rfl
          have r64 := (rg_t hpm (show j < 6 by omega)).2.2.1
          first
            | (have z : tB (N_t N) (N_w N) j = 0 := by
                 unfold tB
                 rw [if_neg (of_decide_eq_false (ab_bl_0.mp c48))]
               rw [z] at er
               rw [show fb_sm (tB (N_t N) (N_w N)) j = fb_sm (tB (N_t N) (N_w N)) (j + 1) from er.symm]
               exact aw_drop 4 (ih (j + 1) (by omega)))
            | (have z : tB (N_t N) (N_w N) j = 0 := by
                 unfold tB
                 rw [if_pos (of_decide_eq_true (ab_bl_1.mp c48))]
                 rw [show fw (N_w N) (rg (N_t N) j) = 0 from if_neg (fun y => c58 (by rw [y]; rfl))]
               rw [z] at er
               rw [show fb_sm (tB (N_t N) (N_w N)) j = fb_sm (tB (N_t N) (N_w N)) (j + 1) from er.symm]
               exact aw_drop 4 (ih (j + 1) (by omega)))
            | (have z : tB (N_t N) (N_w N) j = 1 := by
                 unfold tB
                 rw [if_pos (of_decide_eq_true (ab_bl_1.mp c48))]
                 exact if_pos ((nI_eq (b := 0) (by have := and_63 (b := N_w N) r64; omega) (by decide)).mp c58)
               rw [z] at er
               rw [Nat.add_assoc, ← er]
               exact aw_drop 4 (ih (j + 1) (by omega)))
        · refine aw_iload d_Night_pairsToWell_51 rfl ?_
          refine aw_aload_n d_Night_pairsToWell_53 rfl ?_
          refine aw_get (k := 7) d_Night_pairsToWell_54 cl_Night k_Night_64 (by decide) n0 rfl ?_
          refine aw_iand d_Night_pairsToWell_57 ?_
          rw [fa_and]
          refine aw_if_ne (tgt := 64) d_Night_pairsToWell_58 (by decide) (fun c58 => ?_) (fun c58 => ?_)
          · refine aw_iinc (v := nI ((j) + 1)) (L' := [some (.ref 2), some (.int (nI (wil N))), some (.int (nI (pop (wil N &&& whd (N_w N) (N_t N) (N_n N)) + fb_sm (tB (N_t N) (N_w N)) (j)))), some (.int (nI ((j) + 1))), some (.int (nI (rg (N_t N) j)))]) d_Night_pairsToWell_64 rfl (nI_1 _) ⟨by decide, rfl⟩ rfl ?_
            refine aw_goto (tgt := 24) d_Night_pairsToWell_67 (by decide) ?_
            have er : fb_sm (tB (N_t N) (N_w N)) (j + 1) = fb_sm (tB (N_t N) (N_w N)) j + tB (N_t N) (N_w N) j := rfl
            have r64 := (rg_t hpm (show j < 6 by omega)).2.2.1
            first
              | (have z : tB (N_t N) (N_w N) j = 0 := by
                   unfold tB
                   rw [if_neg (of_decide_eq_false (ab_bl_0.mp c48))]
                 rw [z] at er
                 rw [show fb_sm (tB (N_t N) (N_w N)) j = fb_sm (tB (N_t N) (N_w N)) (j + 1) from er.symm]
                 exact aw_drop 4 (ih (j + 1) (by omega)))
              | (have z : tB (N_t N) (N_w N) j = 0 := by
                   unfold tB
                   rw [if_pos (of_decide_eq_true (ab_bl_1.mp c48))]
                   rw [show fw (N_w N) (rg (N_t N) j) = 0 from if_neg (fun y => c58 (by rw [y]; rfl))]
                 rw [z] at er
                 rw [show fb_sm (tB (N_t N) (N_w N)) j = fb_sm (tB (N_t N) (N_w N)) (j + 1) from er.symm]
                 exact aw_drop 4 (ih (j + 1) (by omega)))
              | (have z : tB (N_t N) (N_w N) j = 1 := by
                   unfold tB
                   rw [if_pos (of_decide_eq_true (ab_bl_1.mp c48))]
                   exact if_pos ((nI_eq (b := 0) (by have := and_63 (b := N_w N) r64; omega) (by decide)).mp c58)
                 rw [z] at er
                 rw [Nat.add_assoc, ← er]
                 exact aw_drop 4 (ih (j + 1) (by omega)))
          · refine aw_iinc (v := nI ((pop (wil N &&& whd (N_w N) (N_t N) (N_n N)) + fb_sm (tB (N_t N) (N_w N)) (j)) + 1)) (L' := [some (.ref 2), some (.int (nI (wil N))), some (.int (nI ((pop (wil N &&& whd (N_w N) (N_t N) (N_n N)) + fb_sm (tB (N_t N) (N_w N)) (j)) + 1))), some (.int (nI (j))), some (.int (nI (rg (N_t N) j)))]) d_Night_pairsToWell_61 rfl (nI_1 _) ⟨by decide, rfl⟩ rfl ?_
            refine aw_iinc (v := nI ((j) + 1)) (L' := [some (.ref 2), some (.int (nI (wil N))), some (.int (nI ((pop (wil N &&& whd (N_w N) (N_t N) (N_n N)) + fb_sm (tB (N_t N) (N_w N)) (j)) + 1))), some (.int (nI ((j) + 1))), some (.int (nI (rg (N_t N) j)))]) d_Night_pairsToWell_64 rfl (nI_1 _) ⟨by decide, rfl⟩ rfl ?_
            refine aw_goto (tgt := 24) d_Night_pairsToWell_67 (by decide) ?_
            have er : fb_sm (tB (N_t N) (N_w N)) (j + 1) = fb_sm (tB (N_t N) (N_w N)) j + tB (N_t N) (N_w N) j := rfl
            have r64 := (rg_t hpm (show j < 6 by omega)).2.2.1
            first
              | (have z : tB (N_t N) (N_w N) j = 0 := by
                   unfold tB
                   rw [if_neg (of_decide_eq_false (ab_bl_0.mp c48))]
                 rw [z] at er
                 rw [show fb_sm (tB (N_t N) (N_w N)) j = fb_sm (tB (N_t N) (N_w N)) (j + 1) from er.symm]
                 exact aw_drop 4 (ih (j + 1) (by omega)))
              | (have z : tB (N_t N) (N_w N) j = 0 := by
                   unfold tB
                   rw [if_pos (of_decide_eq_true (ab_bl_1.mp c48))]
                   rw [show fw (N_w N) (rg (N_t N) j) = 0 from if_neg (fun y => c58 (by rw [y]; rfl))]
                 rw [z] at er
                 rw [show fb_sm (tB (N_t N) (N_w N)) j = fb_sm (tB (N_t N) (N_w N)) (j + 1) from er.symm]
                 exact aw_drop 4 (ih (j + 1) (by omega)))
              | (have z : tB (N_t N) (N_w N) j = 1 := by
                   unfold tB
                   rw [if_pos (of_decide_eq_true (ab_bl_1.mp c48))]
                   exact if_pos ((nI_eq (b := 0) (by have := and_63 (b := N_w N) r64; omega) (by decide)).mp c58)
                 rw [z] at er
                 rw [Nat.add_assoc, ← er]
                 exact aw_drop 4 (ih (j + 1) (by omega)))
  refine aw_aload_n d_Night_pairsToWell_0 rfl ?_
  refine aw_v0i (a := 2) d_Night_pairsToWell_1 k_Night_107 ok_Night_all rfl ⟨rfl, rfl⟩ cl_Night n0 (c_all2 n0 hn6) rfl rfl (Nat.le_of_ble_eq_true rfl) ?_
  refine aw_aload_n d_Night_pairsToWell_4 rfl ?_
  refine aw_get (k := 7) d_Night_pairsToWell_5 cl_Night k_Night_64 (by decide) n0 rfl ?_
  refine aw_iconst (v := (-1)) d_Night_pairsToWell_8 (by decide) ?_
  refine aw_ixor d_Night_pairsToWell_9 ?_
  refine aw_iand d_Night_pairsToWell_10 ?_
  rw [b_andn _ (b_63 _ hn6) _ hw6]
  refine aw_istore_n (L' := [some (.ref 2), some (.int (nI (wil N))), none, none, none]) d_Night_pairsToWell_11 ⟨by decide, rfl⟩ rfl ?_
  refine aw_iload_n d_Night_pairsToWell_12 rfl ?_
  refine aw_aload_n d_Night_pairsToWell_13 rfl ?_
  refine aw_v0i (a := 2) d_Night_pairsToWell_14 k_Night_111 ok_Night_withheld rfl ⟨rfl, rfl⟩ cl_Night n0 (c_withheld n0 hn6 hpm hw6) rfl rfl (Nat.le_of_ble_eq_true rfl) ?_
  refine aw_iand d_Night_pairsToWell_17 ?_
  rw [fa_and]
  refine aw_s0i d_Night_pairsToWell_18 k_Night_99 ok_JI_bitCount rfl ⟨rfl, rfl⟩ (c_bitCount _ (and_63 hwl)) rfl rfl (Nat.le_of_ble_eq_true rfl) ?_
  refine aw_istore_n (L' := [some (.ref 2), some (.int (nI (wil N))), some (.int (nI (pop (wil N &&& whd (N_w N) (N_t N) (N_n N))))), none, none]) d_Night_pairsToWell_21 ⟨by decide, rfl⟩ rfl ?_
  refine aw_iconst (v := nI 0) d_Night_pairsToWell_22 (by decide) ?_
  refine aw_istore_n (L' := [some (.ref 2), some (.int (nI (wil N))), some (.int (nI (pop (wil N &&& whd (N_w N) (N_t N) (N_n N))))), some (.int (nI 0)), none]) d_Night_pairsToWell_23 ⟨by decide, rfl⟩ rfl ?_
  exact loop (N_n N) 0 (by omega)
theorem x_fewest {V : VV} {m : Nat} {h : ab_H} {S : SS} (hX : PX V m h S) (ok : S_ok S) : CX V Y_Coat_fewest [] m h (fun r S2 => SPF S r ∧ S2 = S) := by
  obtain ⟨⟨a0, ⟨n0, n1, n2, n3, n4, n5, n6, n7, n8⟩, a2⟩, p1, p2, p3, p4, p5, p6, p7⟩ := id hX
  have hn6 : N_n (S_N S) ≤ 6 := ok.1.1
  have hnT := nI_toInt (show N_n (S_N S) < 2 ^ 31 by omega)
  obtain ⟨v, v1, v2⟩ := PW_min hn6 ok.1.2.2.2.2.1 (t := N_t (S_N S)) ⟨ok.1.pm, ok.1.2.2.1⟩
  refine ab_C.of (L := [some (.ref 1)]) rfl rfl (Nat.le_of_ble_eq_true rfl) (fun l => ?_)
  refine aw_aload_n d_Coat_fewest_0 rfl ?_
  refine aw_get (k := 0) d_Coat_fewest_1 cl_Coat k_Coat_10 (by decide) a0 rfl ?_
  refine aw_v0i (a := 2) d_Coat_fewest_4 k_Coat_199 ok_Night_pairsToWell rfl ⟨rfl, rfl⟩ cl_Night n0 (c_pairsToWell hX.1.2.1 ok.1 v1) rfl rfl (Nat.le_of_ble_eq_true rfl) ?_
  refine aw_ireturn d_Coat_fewest_7 rfl rfl ?_
  exact ⟨_, S, rfl, ⟨⟨v, v2, rfl⟩, rfl⟩, hX, Nat.le_refl _, fun k _ _ => rfl⟩
